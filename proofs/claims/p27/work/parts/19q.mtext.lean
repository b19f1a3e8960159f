/-! MTEXT: the reference's tokens -/
/-- the character at a place, -1 behind the end -/
def rdh (T : Int → Int) (n j : Int) : Int := if j < n then T j else -1
def rdH (I : fM) : Int := rdh (I 218) (I 214 6) (I 214 7)
/-- the kinds of a character, in words of what 'here' tells -/
def rdq (T : Int → Int) (n j : Int) : Prop := (tKd T n j = 1 ↔ 97 ≤ rdh T n j ∧ rdh T n j ≤ 122) ∧ (tKd T n j = 2 ↔ 48 ≤ rdh T n j ∧ rdh T n j ≤ 57) ∧ (tKd T n j = 3 ↔ rdh T n j = 59) ∧ (tKd T n j = 0 ↔ rdh T n j < 0) ∧ (n ≤ j ↔ rdh T n j = -1) ∧ (j < n → rdh T n j = T j)
theorem rdh_k {T : Int → Int} {n j : Int} (hT : tOk T n) (hj : 0 ≤ j) : (-1 ≤ rdh T n j ∧ rdh T n j ≤ 255) ∧ rdq T n j := by
  have h := hT j hj
  unfold rdq rdh tKd
  by_cases z : j < n
  · have h := h z
    rw [if_pos z, if_neg (by omega)]
    refine ⟨by omega, ?_, ?_, ?_, ?_, by omega, fun _ => rfl⟩ <;> (repeat' split) <;> omega
  · rw [if_neg z, if_pos (by omega)]
    omega
def rdW (T : Int → Int) (a : Int) : Nat → Int
  | 0 => 0
  | k + 1 => if k < 5 then 27 * rdW T a k + T (a + k) - 97 + 1 else 0
def rdD (T : Int → Int) (a : Int) : Nat → Int
  | 0 => 0
  | k + 1 => if rdD T a k < 10000 then 10 * rdD T a k + T (a + k) - 48 else rdD T a k
/-- a token's code, its worth -/
noncomputable def rdK (T : Int → Int) (n e : Int) : Int := if tK T n e = 1 then 0 else if tK T n e = 2 then (if T (tS T n e) = 48 ∧ tE T n e ≠ tS T n e + 1 then 3 else 1) else if tK T n e = 3 then 2 else if tK T n e = 0 then 4 else 3
noncomputable def rdV (T : Int → Int) (n e : Int) : Int := if tK T n e = 1 then rdW T (tS T n e) (tE T n e - tS T n e).toNat else if tK T n e = 2 then rdD T (tS T n e) (tE T n e - tS T n e).toNat else 0
/-- a token read -/
noncomputable def rdS (I : fM) : fM := fun a b => if a = 214 ∧ b = 7 then tE (I 218) (I 214 6) (I 214 7) else if a = 214 ∧ b = 8 then tS (I 218) (I 214 6) (I 214 7) else if a = 214 ∧ b = 9 then rdK (I 218) (I 214 6) (I 214 7) else if a = 214 ∧ b = 10 then rdV (I 218) (I 214 6) (I 214 7) else I a b
/-- the token from place e on is the present one -/
def rdT (I : fM) (T : Int → Int) (n e : Int) : Prop := I 218 = T ∧ I 214 6 = n ∧ I 214 7 = tE T n e ∧ I 214 8 = tS T n e ∧ I 214 9 = rdK T n e ∧ I 214 10 = rdV T n e
/-- nothing has changed but the parser's fields -/
def rdO (I J : fM) : Prop := (∀ a : Nat, a ≠ 214 → J a = I a) ∧ ∀ b : Int, (b < 7 ∨ 11 < b) → J 214 b = I 214 b
theorem rdO_r (I : fM) : rdO I I := ⟨fun _ _ => rfl, fun _ _ => rfl⟩
theorem rdO_tr {I J K : fM} (h : rdO I J) (k : rdO J K) : rdO I K := ⟨fun a ha => (k.1 a ha).trans (h.1 a ha), fun b hb => (k.2 b hb).trans (h.2 b hb)⟩
theorem rdO_s (I : fM) : rdO I (rdS I) := by
  refine ⟨fun a ha => ?_, fun b hb => ?_⟩
  · funext b
    unfold rdS
    rw [if_neg (fun z => ha z.1), if_neg (fun z => ha z.1), if_neg (fun z => ha z.1), if_neg (fun z => ha z.1)]
  · unfold rdS
    rw [if_neg (by omega), if_neg (by omega), if_neg (by omega), if_neg (by omega)]
theorem rdO_11 (I : fM) (x : Int) : rdO I (fup I 214 11 x) := ⟨fun a ha => fup_ne ha, fun b hb => fup_j (by omega)⟩
theorem rdS_11 (I : fM) : rdS I 214 11 = I 214 11 := by
  unfold rdS
  rw [if_neg (by omega), if_neg (by omega), if_neg (by omega), if_neg (by omega)]
theorem rdT_s {I : fM} {T : Int → Int} {n e : Int} (h0 : I 218 = T) (h6 : I 214 6 = n) (h7 : I 214 7 = e) : rdT (rdS I) T n e := by
  subst h0; subst h6; subst h7
  refine ⟨(rdO_s I).1 218 (by decide), (rdO_s I).2 6 (by decide), ?_, ?_, ?_, ?_⟩ <;> simp [rdS]
theorem rdT_n {I : fM} {T : Int → Int} {n e : Int} (h : rdT I T n e) : rdT (rdS I) T n (tE T n e) := rdT_s h.1 h.2.1 h.2.2.1
theorem rdT_o {I J : fM} {T : Int → Int} {n e : Int} (h : rdT I T n e) (h1 : J 218 = I 218) (h2 : ∀ b : Int, 6 ≤ b → b ≤ 10 → J 214 b = I 214 b) : rdT J T n e := by
  obtain ⟨k1, k2, k3, k4, k5, k6⟩ := h
  exact ⟨h1.trans k1, (h2 6 (by decide) (by decide)).trans k2, (h2 7 (by decide) (by decide)).trans k3, (h2 8 (by decide) (by decide)).trans k4, (h2 9 (by decide) (by decide)).trans k5, (h2 10 (by decide) (by decide)).trans k6⟩
theorem rdK_0 {T : Int → Int} {n e : Int} : rdK T n e = 0 ↔ tK T n e = 1 := by
  unfold rdK
  (repeat' split) <;> omega
theorem rdK_2 {T : Int → Int} {n e : Int} : rdK T n e = 2 ↔ tK T n e = 3 := by
  unfold rdK
  (repeat' split) <;> omega
theorem rdK_4 {T : Int → Int} {n e : Int} : rdK T n e = 4 ↔ tK T n e = 0 := by
  unfold rdK
  (repeat' split) <;> omega
theorem rdK_b (T : Int → Int) (n e : Int) : 0 ≤ rdK T n e ∧ rdK T n e ≤ 4 := by
  unfold rdK
  (repeat' split) <;> omega
theorem rdW_g {T : Int → Int} {a : Int} {k : Nat} (h : 5 < k) : rdW T a k = 0 := by
  obtain ⟨m, rfl⟩ : ∃ m, k = m + 1 := ⟨k - 1, by omega⟩
  show (if m < 5 then _ else _) = (0 : Int)
  rw [if_neg (by omega)]
theorem rdW_s {T : Int → Int} {a : Int} {k : Nat} (h : k < 5) : rdW T a (k + 1) = 27 * rdW T a k + T (a + k) - 97 + 1 := by
  show (if k < 5 then _ else _) = _
  rw [if_pos h]
theorem rdW_b {T : Int → Int} {a : Int} : ∀ k : Nat, (∀ i : Nat, i < k → 97 ≤ T (a + i) ∧ T (a + i) ≤ 122) → 0 ≤ rdW T a k ∧ rdW T a k ≤ 14348906 ∧ (k ≤ 4 → rdW T a k ≤ 531440) ∧ (k ≤ 3 → rdW T a k ≤ 19682) ∧ (k ≤ 2 → rdW T a k ≤ 728) ∧ (k ≤ 1 → rdW T a k ≤ 26) ∧ (k ≤ 0 → rdW T a k ≤ 0) := by
  intro k
  induction k with
  | zero =>
    intro _
    have e : rdW T a 0 = 0 := rfl
    omega
  | succ k ih =>
    intro h
    have h1 := ih (fun i hi => h i (by omega))
    have h2 := h k (by omega)
    by_cases hk : k < 5
    · rw [rdW_s hk]
      omega
    · rw [rdW_g (by omega)]
      omega
theorem rdD_b {T : Int → Int} {a : Int} : ∀ k : Nat, (∀ i : Nat, i < k → 48 ≤ T (a + i) ∧ T (a + i) ≤ 57) → 0 ≤ rdD T a k ∧ rdD T a k ≤ 99999 ∧ (rdD T a k = dval T a k ∨ (10000 ≤ rdD T a k ∧ 10000 ≤ dval T a k)) ∧ 0 ≤ dval T a k := by
  intro k
  induction k with
  | zero =>
    intro _
    have e : rdD T a 0 = 0 := rfl
    have e2 : dval T a 0 = 0 := rfl
    omega
  | succ k ih =>
    intro h
    have h1 := ih (fun i hi => h i (by omega))
    have h2 := h k (by omega)
    have e1 : rdD T a (k + 1) = if rdD T a k < 10000 then 10 * rdD T a k + T (a + k) - 48 else rdD T a k := rfl
    have e2 : dval T a (k + 1) = 10 * dval T a k + (T (a + k) - 48) := rfl
    rw [e1, e2]
    split <;> omega
theorem tok_let {T : Int → Int} {n e : Int} (h : e ≤ n) (hk : tK T n e = 1) : ∀ i : Nat, i < (tE T n e - tS T n e).toNat → 97 ≤ T (tS T n e + i) ∧ T (tS T n e + i) ≤ 122 := fun i hi => (tKd_1 ((tE_run h (Or.inl hk) (by omega) (by omega)).trans hk)).2
theorem tok_dig {T : Int → Int} {n e : Int} (h : e ≤ n) (hk : tK T n e = 2) : ∀ i : Nat, i < (tE T n e - tS T n e).toNat → 48 ≤ T (tS T n e + i) ∧ T (tS T n e + i) ≤ 57 := fun i hi => (tKd_2 ((tE_run h (Or.inr hk) (by omega) (by omega)).trans hk)).2
theorem rdV_b {T : Int → Int} {n e : Int} (h : e ≤ n) : 0 ≤ rdV T n e ∧ rdV T n e ≤ 14348906 := by
  unfold rdV
  split
  · rename_i hk
    have := rdW_b _ (tok_let h hk)
    omega
  · split
    · rename_i hk
      have := rdD_b _ (tok_dig h hk)
      omega
    · omega
/-- numbers -/
theorem rd_num {T : Int → Int} {n e lo hi : Int} (h : e ≤ n) (h0 : 0 ≤ lo) (h1 : hi ≤ 9999) : ((rdK T n e = 1 ∧ lo ≤ rdV T n e ∧ rdV T n e ≤ hi) ↔ (lo ≤ tNum T n e ∧ tNum T n e ≤ hi)) ∧ (lo ≤ tNum T n e → tNum T n e ≤ hi → rdV T n e = tNum T n e) := by
  have b := tE_b (T := T) h
  by_cases hk : tK T n e = 2
  · have d := rdD_b _ (tok_dig h hk)
    have b3 := b.2.2 (by omega)
    have e1 : rdK T n e = if T (tS T n e) = 48 ∧ tE T n e ≠ tS T n e + 1 then 3 else 1 := by
      unfold rdK
      rw [if_neg (by omega), if_pos hk]
    have e2 : rdV T n e = rdD T (tS T n e) (tE T n e - tS T n e).toNat := by
      unfold rdV
      rw [if_neg (by omega), if_pos hk]
    have e3 : tNum T n e = if tK T n e = 2 ∧ ¬ (T (tS T n e) = 48 ∧ 1 < tE T n e - tS T n e) then dval T (tS T n e) (tE T n e - tS T n e).toNat else -1 := rfl
    rw [e1, e2, e3]
    by_cases hz : T (tS T n e) = 48 ∧ 1 < tE T n e - tS T n e
    · rw [if_pos (show T (tS T n e) = 48 ∧ tE T n e ≠ tS T n e + 1 from ⟨hz.1, by omega⟩), if_neg (fun z => z.2 hz)]
      omega
    · rw [if_neg (c := T (tS T n e) = 48 ∧ tE T n e ≠ tS T n e + 1) (fun z => hz ⟨z.1, by omega⟩), if_pos ⟨hk, hz⟩]
      omega
  · have e3 : tNum T n e = -1 := by
      unfold tNum
      rw [if_neg (fun z => hk z.1)]
    rw [e3]
    refine ⟨⟨fun z => ?_, fun z => by omega⟩, fun z => by omega⟩
    have z1 := z.1
    unfold rdK at z1
    (repeat' split at z1) <;> omega
theorem rd_h0 {T : Int → Int} {a : Int} {k : Nat} (h0 : 0 < k) (h : ∀ i : Nat, i < k → 97 ≤ T (a + i) ∧ T (a + i) ≤ 122) : rdW T a k = 13903 ↔ (k = 3 ∧ T (a + ((0 : Nat) : Int)) = 115 ∧ T (a + ((1 : Nat) : Int)) = 97 ∧ T (a + ((2 : Nat) : Int)) = 121) := by
  have hk : k = 1 ∨ k = 2 ∨ k = 3 ∨ k = 4 ∨ k = 5 ∨ 5 < k := by omega
  rcases hk with rfl | rfl | rfl | rfl | rfl | hk
  · have e0 : rdW T a 0 = 0 := rfl
    have e1 := rdW_s (T := T) (a := a) (k := 0) (by decide)
    have l0 := h 0 (by decide)
    simp only [Nat.reduceAdd] at e1
    omega
  · have e0 : rdW T a 0 = 0 := rfl
    have e1 := rdW_s (T := T) (a := a) (k := 0) (by decide)
    have e2 := rdW_s (T := T) (a := a) (k := 1) (by decide)
    have l0 := h 0 (by decide)
    have l1 := h 1 (by decide)
    simp only [Nat.reduceAdd] at e1 e2
    omega
  · have e0 : rdW T a 0 = 0 := rfl
    have e1 := rdW_s (T := T) (a := a) (k := 0) (by decide)
    have e2 := rdW_s (T := T) (a := a) (k := 1) (by decide)
    have e3 := rdW_s (T := T) (a := a) (k := 2) (by decide)
    have l0 := h 0 (by decide)
    have l1 := h 1 (by decide)
    have l2 := h 2 (by decide)
    simp only [Nat.reduceAdd] at e1 e2 e3
    omega
  · have e0 : rdW T a 0 = 0 := rfl
    have e1 := rdW_s (T := T) (a := a) (k := 0) (by decide)
    have e2 := rdW_s (T := T) (a := a) (k := 1) (by decide)
    have e3 := rdW_s (T := T) (a := a) (k := 2) (by decide)
    have e4 := rdW_s (T := T) (a := a) (k := 3) (by decide)
    have l0 := h 0 (by decide)
    have l1 := h 1 (by decide)
    have l2 := h 2 (by decide)
    have l3 := h 3 (by decide)
    simp only [Nat.reduceAdd] at e1 e2 e3 e4
    omega
  · have e0 : rdW T a 0 = 0 := rfl
    have e1 := rdW_s (T := T) (a := a) (k := 0) (by decide)
    have e2 := rdW_s (T := T) (a := a) (k := 1) (by decide)
    have e3 := rdW_s (T := T) (a := a) (k := 2) (by decide)
    have e4 := rdW_s (T := T) (a := a) (k := 3) (by decide)
    have e5 := rdW_s (T := T) (a := a) (k := 4) (by decide)
    have l0 := h 0 (by decide)
    have l1 := h 1 (by decide)
    have l2 := h 2 (by decide)
    have l3 := h 3 (by decide)
    have l4 := h 4 (by decide)
    simp only [Nat.reduceAdd] at e1 e2 e3 e4 e5
    omega
  · rw [rdW_g hk]
    omega
theorem rd_h1 {T : Int → Int} {a : Int} {k : Nat} (h0 : 0 < k) (h : ∀ i : Nat, i < k → 97 ≤ T (a + i) ∧ T (a + i) ≤ 122) : rdW T a k = 2774 ↔ (k = 3 ∧ T (a + ((0 : Nat) : Int)) = 99 ∧ T (a + ((1 : Nat) : Int)) = 117 ∧ T (a + ((2 : Nat) : Int)) = 116) := by
  have hk : k = 1 ∨ k = 2 ∨ k = 3 ∨ k = 4 ∨ k = 5 ∨ 5 < k := by omega
  rcases hk with rfl | rfl | rfl | rfl | rfl | hk
  · have e0 : rdW T a 0 = 0 := rfl
    have e1 := rdW_s (T := T) (a := a) (k := 0) (by decide)
    have l0 := h 0 (by decide)
    simp only [Nat.reduceAdd] at e1
    omega
  · have e0 : rdW T a 0 = 0 := rfl
    have e1 := rdW_s (T := T) (a := a) (k := 0) (by decide)
    have e2 := rdW_s (T := T) (a := a) (k := 1) (by decide)
    have l0 := h 0 (by decide)
    have l1 := h 1 (by decide)
    simp only [Nat.reduceAdd] at e1 e2
    omega
  · have e0 : rdW T a 0 = 0 := rfl
    have e1 := rdW_s (T := T) (a := a) (k := 0) (by decide)
    have e2 := rdW_s (T := T) (a := a) (k := 1) (by decide)
    have e3 := rdW_s (T := T) (a := a) (k := 2) (by decide)
    have l0 := h 0 (by decide)
    have l1 := h 1 (by decide)
    have l2 := h 2 (by decide)
    simp only [Nat.reduceAdd] at e1 e2 e3
    omega
  · have e0 : rdW T a 0 = 0 := rfl
    have e1 := rdW_s (T := T) (a := a) (k := 0) (by decide)
    have e2 := rdW_s (T := T) (a := a) (k := 1) (by decide)
    have e3 := rdW_s (T := T) (a := a) (k := 2) (by decide)
    have e4 := rdW_s (T := T) (a := a) (k := 3) (by decide)
    have l0 := h 0 (by decide)
    have l1 := h 1 (by decide)
    have l2 := h 2 (by decide)
    have l3 := h 3 (by decide)
    simp only [Nat.reduceAdd] at e1 e2 e3 e4
    omega
  · have e0 : rdW T a 0 = 0 := rfl
    have e1 := rdW_s (T := T) (a := a) (k := 0) (by decide)
    have e2 := rdW_s (T := T) (a := a) (k := 1) (by decide)
    have e3 := rdW_s (T := T) (a := a) (k := 2) (by decide)
    have e4 := rdW_s (T := T) (a := a) (k := 3) (by decide)
    have e5 := rdW_s (T := T) (a := a) (k := 4) (by decide)
    have l0 := h 0 (by decide)
    have l1 := h 1 (by decide)
    have l2 := h 2 (by decide)
    have l3 := h 3 (by decide)
    have l4 := h 4 (by decide)
    simp only [Nat.reduceAdd] at e1 e2 e3 e4 e5
    omega
  · rw [rdW_g hk]
    omega
theorem rd_h2 {T : Int → Int} {a : Int} {k : Nat} (h0 : 0 < k) (h : ∀ i : Nat, i < k → 97 ≤ T (a + i) ∧ T (a + i) ≤ 122) : rdW T a k = 240023 ↔ (k = 4 ∧ T (a + ((0 : Nat) : Int)) = 108 ∧ T (a + ((1 : Nat) : Int)) = 101 ∧ T (a + ((2 : Nat) : Int)) = 102 ∧ T (a + ((3 : Nat) : Int)) = 116) := by
  have hk : k = 1 ∨ k = 2 ∨ k = 3 ∨ k = 4 ∨ k = 5 ∨ 5 < k := by omega
  rcases hk with rfl | rfl | rfl | rfl | rfl | hk
  · have e0 : rdW T a 0 = 0 := rfl
    have e1 := rdW_s (T := T) (a := a) (k := 0) (by decide)
    have l0 := h 0 (by decide)
    simp only [Nat.reduceAdd] at e1
    omega
  · have e0 : rdW T a 0 = 0 := rfl
    have e1 := rdW_s (T := T) (a := a) (k := 0) (by decide)
    have e2 := rdW_s (T := T) (a := a) (k := 1) (by decide)
    have l0 := h 0 (by decide)
    have l1 := h 1 (by decide)
    simp only [Nat.reduceAdd] at e1 e2
    omega
  · have e0 : rdW T a 0 = 0 := rfl
    have e1 := rdW_s (T := T) (a := a) (k := 0) (by decide)
    have e2 := rdW_s (T := T) (a := a) (k := 1) (by decide)
    have e3 := rdW_s (T := T) (a := a) (k := 2) (by decide)
    have l0 := h 0 (by decide)
    have l1 := h 1 (by decide)
    have l2 := h 2 (by decide)
    simp only [Nat.reduceAdd] at e1 e2 e3
    omega
  · have e0 : rdW T a 0 = 0 := rfl
    have e1 := rdW_s (T := T) (a := a) (k := 0) (by decide)
    have e2 := rdW_s (T := T) (a := a) (k := 1) (by decide)
    have e3 := rdW_s (T := T) (a := a) (k := 2) (by decide)
    have e4 := rdW_s (T := T) (a := a) (k := 3) (by decide)
    have l0 := h 0 (by decide)
    have l1 := h 1 (by decide)
    have l2 := h 2 (by decide)
    have l3 := h 3 (by decide)
    simp only [Nat.reduceAdd] at e1 e2 e3 e4
    omega
  · have e0 : rdW T a 0 = 0 := rfl
    have e1 := rdW_s (T := T) (a := a) (k := 0) (by decide)
    have e2 := rdW_s (T := T) (a := a) (k := 1) (by decide)
    have e3 := rdW_s (T := T) (a := a) (k := 2) (by decide)
    have e4 := rdW_s (T := T) (a := a) (k := 3) (by decide)
    have e5 := rdW_s (T := T) (a := a) (k := 4) (by decide)
    have l0 := h 0 (by decide)
    have l1 := h 1 (by decide)
    have l2 := h 2 (by decide)
    have l3 := h 3 (by decide)
    have l4 := h 4 (by decide)
    simp only [Nat.reduceAdd] at e1 e2 e3 e4 e5
    omega
  · rw [rdW_g hk]
    omega
theorem rd_h3 {T : Int → Int} {a : Int} {k : Nat} (h0 : 0 < k) (h : ∀ i : Nat, i < k → 97 ≤ T (a + i) ∧ T (a + i) ≤ 122) : rdW T a k = 9748424 ↔ (k = 5 ∧ T (a + ((0 : Nat) : Int)) = 114 ∧ T (a + ((1 : Nat) : Int)) = 105 ∧ T (a + ((2 : Nat) : Int)) = 103 ∧ T (a + ((3 : Nat) : Int)) = 104 ∧ T (a + ((4 : Nat) : Int)) = 116) := by
  have hk : k = 1 ∨ k = 2 ∨ k = 3 ∨ k = 4 ∨ k = 5 ∨ 5 < k := by omega
  rcases hk with rfl | rfl | rfl | rfl | rfl | hk
  · have e0 : rdW T a 0 = 0 := rfl
    have e1 := rdW_s (T := T) (a := a) (k := 0) (by decide)
    have l0 := h 0 (by decide)
    simp only [Nat.reduceAdd] at e1
    omega
  · have e0 : rdW T a 0 = 0 := rfl
    have e1 := rdW_s (T := T) (a := a) (k := 0) (by decide)
    have e2 := rdW_s (T := T) (a := a) (k := 1) (by decide)
    have l0 := h 0 (by decide)
    have l1 := h 1 (by decide)
    simp only [Nat.reduceAdd] at e1 e2
    omega
  · have e0 : rdW T a 0 = 0 := rfl
    have e1 := rdW_s (T := T) (a := a) (k := 0) (by decide)
    have e2 := rdW_s (T := T) (a := a) (k := 1) (by decide)
    have e3 := rdW_s (T := T) (a := a) (k := 2) (by decide)
    have l0 := h 0 (by decide)
    have l1 := h 1 (by decide)
    have l2 := h 2 (by decide)
    simp only [Nat.reduceAdd] at e1 e2 e3
    omega
  · have e0 : rdW T a 0 = 0 := rfl
    have e1 := rdW_s (T := T) (a := a) (k := 0) (by decide)
    have e2 := rdW_s (T := T) (a := a) (k := 1) (by decide)
    have e3 := rdW_s (T := T) (a := a) (k := 2) (by decide)
    have e4 := rdW_s (T := T) (a := a) (k := 3) (by decide)
    have l0 := h 0 (by decide)
    have l1 := h 1 (by decide)
    have l2 := h 2 (by decide)
    have l3 := h 3 (by decide)
    simp only [Nat.reduceAdd] at e1 e2 e3 e4
    omega
  · have e0 : rdW T a 0 = 0 := rfl
    have e1 := rdW_s (T := T) (a := a) (k := 0) (by decide)
    have e2 := rdW_s (T := T) (a := a) (k := 1) (by decide)
    have e3 := rdW_s (T := T) (a := a) (k := 2) (by decide)
    have e4 := rdW_s (T := T) (a := a) (k := 3) (by decide)
    have e5 := rdW_s (T := T) (a := a) (k := 4) (by decide)
    have l0 := h 0 (by decide)
    have l1 := h 1 (by decide)
    have l2 := h 2 (by decide)
    have l3 := h 3 (by decide)
    have l4 := h 4 (by decide)
    simp only [Nat.reduceAdd] at e1 e2 e3 e4 e5
    omega
  · rw [rdW_g hk]
    omega
theorem rd_h4 {T : Int → Int} {a : Int} {k : Nat} (h0 : 0 < k) (h : ∀ i : Nat, i < k → 97 ≤ T (a + i) ∧ T (a + i) ≤ 122) : rdW T a k = 583 ↔ (k = 2 ∧ T (a + ((0 : Nat) : Int)) = 117 ∧ T (a + ((1 : Nat) : Int)) = 112) := by
  have hk : k = 1 ∨ k = 2 ∨ k = 3 ∨ k = 4 ∨ k = 5 ∨ 5 < k := by omega
  rcases hk with rfl | rfl | rfl | rfl | rfl | hk
  · have e0 : rdW T a 0 = 0 := rfl
    have e1 := rdW_s (T := T) (a := a) (k := 0) (by decide)
    have l0 := h 0 (by decide)
    simp only [Nat.reduceAdd] at e1
    omega
  · have e0 : rdW T a 0 = 0 := rfl
    have e1 := rdW_s (T := T) (a := a) (k := 0) (by decide)
    have e2 := rdW_s (T := T) (a := a) (k := 1) (by decide)
    have l0 := h 0 (by decide)
    have l1 := h 1 (by decide)
    simp only [Nat.reduceAdd] at e1 e2
    omega
  · have e0 : rdW T a 0 = 0 := rfl
    have e1 := rdW_s (T := T) (a := a) (k := 0) (by decide)
    have e2 := rdW_s (T := T) (a := a) (k := 1) (by decide)
    have e3 := rdW_s (T := T) (a := a) (k := 2) (by decide)
    have l0 := h 0 (by decide)
    have l1 := h 1 (by decide)
    have l2 := h 2 (by decide)
    simp only [Nat.reduceAdd] at e1 e2 e3
    omega
  · have e0 : rdW T a 0 = 0 := rfl
    have e1 := rdW_s (T := T) (a := a) (k := 0) (by decide)
    have e2 := rdW_s (T := T) (a := a) (k := 1) (by decide)
    have e3 := rdW_s (T := T) (a := a) (k := 2) (by decide)
    have e4 := rdW_s (T := T) (a := a) (k := 3) (by decide)
    have l0 := h 0 (by decide)
    have l1 := h 1 (by decide)
    have l2 := h 2 (by decide)
    have l3 := h 3 (by decide)
    simp only [Nat.reduceAdd] at e1 e2 e3 e4
    omega
  · have e0 : rdW T a 0 = 0 := rfl
    have e1 := rdW_s (T := T) (a := a) (k := 0) (by decide)
    have e2 := rdW_s (T := T) (a := a) (k := 1) (by decide)
    have e3 := rdW_s (T := T) (a := a) (k := 2) (by decide)
    have e4 := rdW_s (T := T) (a := a) (k := 3) (by decide)
    have e5 := rdW_s (T := T) (a := a) (k := 4) (by decide)
    have l0 := h 0 (by decide)
    have l1 := h 1 (by decide)
    have l2 := h 2 (by decide)
    have l3 := h 3 (by decide)
    have l4 := h 4 (by decide)
    simp only [Nat.reduceAdd] at e1 e2 e3 e4 e5
    omega
  · rw [rdW_g hk]
    omega
theorem rd_h5 {T : Int → Int} {a : Int} {k : Nat} (h0 : 0 < k) (h : ∀ i : Nat, i < k → 97 ≤ T (a + i) ∧ T (a + i) ≤ 122) : rdW T a k = 90302 ↔ (k = 4 ∧ T (a + ((0 : Nat) : Int)) = 100 ∧ T (a + ((1 : Nat) : Int)) = 111 ∧ T (a + ((2 : Nat) : Int)) = 119 ∧ T (a + ((3 : Nat) : Int)) = 110) := by
  have hk : k = 1 ∨ k = 2 ∨ k = 3 ∨ k = 4 ∨ k = 5 ∨ 5 < k := by omega
  rcases hk with rfl | rfl | rfl | rfl | rfl | hk
  · have e0 : rdW T a 0 = 0 := rfl
    have e1 := rdW_s (T := T) (a := a) (k := 0) (by decide)
    have l0 := h 0 (by decide)
    simp only [Nat.reduceAdd] at e1
    omega
  · have e0 : rdW T a 0 = 0 := rfl
    have e1 := rdW_s (T := T) (a := a) (k := 0) (by decide)
    have e2 := rdW_s (T := T) (a := a) (k := 1) (by decide)
    have l0 := h 0 (by decide)
    have l1 := h 1 (by decide)
    simp only [Nat.reduceAdd] at e1 e2
    omega
  · have e0 : rdW T a 0 = 0 := rfl
    have e1 := rdW_s (T := T) (a := a) (k := 0) (by decide)
    have e2 := rdW_s (T := T) (a := a) (k := 1) (by decide)
    have e3 := rdW_s (T := T) (a := a) (k := 2) (by decide)
    have l0 := h 0 (by decide)
    have l1 := h 1 (by decide)
    have l2 := h 2 (by decide)
    simp only [Nat.reduceAdd] at e1 e2 e3
    omega
  · have e0 : rdW T a 0 = 0 := rfl
    have e1 := rdW_s (T := T) (a := a) (k := 0) (by decide)
    have e2 := rdW_s (T := T) (a := a) (k := 1) (by decide)
    have e3 := rdW_s (T := T) (a := a) (k := 2) (by decide)
    have e4 := rdW_s (T := T) (a := a) (k := 3) (by decide)
    have l0 := h 0 (by decide)
    have l1 := h 1 (by decide)
    have l2 := h 2 (by decide)
    have l3 := h 3 (by decide)
    simp only [Nat.reduceAdd] at e1 e2 e3 e4
    omega
  · have e0 : rdW T a 0 = 0 := rfl
    have e1 := rdW_s (T := T) (a := a) (k := 0) (by decide)
    have e2 := rdW_s (T := T) (a := a) (k := 1) (by decide)
    have e3 := rdW_s (T := T) (a := a) (k := 2) (by decide)
    have e4 := rdW_s (T := T) (a := a) (k := 3) (by decide)
    have e5 := rdW_s (T := T) (a := a) (k := 4) (by decide)
    have l0 := h 0 (by decide)
    have l1 := h 1 (by decide)
    have l2 := h 2 (by decide)
    have l3 := h 3 (by decide)
    have l4 := h 4 (by decide)
    simp only [Nat.reduceAdd] at e1 e2 e3 e4 e5
    omega
  · rw [rdW_g hk]
    omega
theorem rd_n0 {T : Int → Int} {n e : Int} (h : e ≤ n) (hk : tK T n e = 1) : rdV T n e = 13903 ↔ tNm T n e 0 := by
  have b := tE_b (T := T) h
  have b3 := b.2.2 (by omega)
  have hl : fLen.getD 0 0 = 3 := rfl
  have c0 : fChr 0 0 = 115 := by decide +kernel
  have c1 : fChr 0 1 = 97 := by decide +kernel
  have c2 : fChr 0 2 = 121 := by decide +kernel
  unfold rdV tNm
  rw [if_pos hk, rd_h0 (by omega) (tok_let h hk), hl]
  constructor
  · rintro ⟨z, z0, z1, z2⟩
    refine ⟨hk, by omega, fun j hj => ?_⟩
    have hj2 : j = 0 ∨ j = 1 ∨ j = 2 := by omega
    rcases hj2 with rfl | rfl | rfl
    · rw [c0]; exact z0
    · rw [c1]; exact z1
    · rw [c2]; exact z2
  · rintro ⟨-, z, q⟩
    exact ⟨by omega, c0 ▸ q 0 (by decide), c1 ▸ q 1 (by decide), c2 ▸ q 2 (by decide)⟩
theorem rd_n1 {T : Int → Int} {n e : Int} (h : e ≤ n) (hk : tK T n e = 1) : rdV T n e = 2774 ↔ tNm T n e 1 := by
  have b := tE_b (T := T) h
  have b3 := b.2.2 (by omega)
  have hl : fLen.getD 1 0 = 3 := rfl
  have c0 : fChr 1 0 = 99 := by decide +kernel
  have c1 : fChr 1 1 = 117 := by decide +kernel
  have c2 : fChr 1 2 = 116 := by decide +kernel
  unfold rdV tNm
  rw [if_pos hk, rd_h1 (by omega) (tok_let h hk), hl]
  constructor
  · rintro ⟨z, z0, z1, z2⟩
    refine ⟨hk, by omega, fun j hj => ?_⟩
    have hj2 : j = 0 ∨ j = 1 ∨ j = 2 := by omega
    rcases hj2 with rfl | rfl | rfl
    · rw [c0]; exact z0
    · rw [c1]; exact z1
    · rw [c2]; exact z2
  · rintro ⟨-, z, q⟩
    exact ⟨by omega, c0 ▸ q 0 (by decide), c1 ▸ q 1 (by decide), c2 ▸ q 2 (by decide)⟩
theorem rd_n2 {T : Int → Int} {n e : Int} (h : e ≤ n) (hk : tK T n e = 1) : rdV T n e = 240023 ↔ tNm T n e 2 := by
  have b := tE_b (T := T) h
  have b3 := b.2.2 (by omega)
  have hl : fLen.getD 2 0 = 4 := rfl
  have c0 : fChr 2 0 = 108 := by decide +kernel
  have c1 : fChr 2 1 = 101 := by decide +kernel
  have c2 : fChr 2 2 = 102 := by decide +kernel
  have c3 : fChr 2 3 = 116 := by decide +kernel
  unfold rdV tNm
  rw [if_pos hk, rd_h2 (by omega) (tok_let h hk), hl]
  constructor
  · rintro ⟨z, z0, z1, z2, z3⟩
    refine ⟨hk, by omega, fun j hj => ?_⟩
    have hj2 : j = 0 ∨ j = 1 ∨ j = 2 ∨ j = 3 := by omega
    rcases hj2 with rfl | rfl | rfl | rfl
    · rw [c0]; exact z0
    · rw [c1]; exact z1
    · rw [c2]; exact z2
    · rw [c3]; exact z3
  · rintro ⟨-, z, q⟩
    exact ⟨by omega, c0 ▸ q 0 (by decide), c1 ▸ q 1 (by decide), c2 ▸ q 2 (by decide), c3 ▸ q 3 (by decide)⟩
theorem rd_n3 {T : Int → Int} {n e : Int} (h : e ≤ n) (hk : tK T n e = 1) : rdV T n e = 9748424 ↔ tNm T n e 3 := by
  have b := tE_b (T := T) h
  have b3 := b.2.2 (by omega)
  have hl : fLen.getD 3 0 = 5 := rfl
  have c0 : fChr 3 0 = 114 := by decide +kernel
  have c1 : fChr 3 1 = 105 := by decide +kernel
  have c2 : fChr 3 2 = 103 := by decide +kernel
  have c3 : fChr 3 3 = 104 := by decide +kernel
  have c4 : fChr 3 4 = 116 := by decide +kernel
  unfold rdV tNm
  rw [if_pos hk, rd_h3 (by omega) (tok_let h hk), hl]
  constructor
  · rintro ⟨z, z0, z1, z2, z3, z4⟩
    refine ⟨hk, by omega, fun j hj => ?_⟩
    have hj2 : j = 0 ∨ j = 1 ∨ j = 2 ∨ j = 3 ∨ j = 4 := by omega
    rcases hj2 with rfl | rfl | rfl | rfl | rfl
    · rw [c0]; exact z0
    · rw [c1]; exact z1
    · rw [c2]; exact z2
    · rw [c3]; exact z3
    · rw [c4]; exact z4
  · rintro ⟨-, z, q⟩
    exact ⟨by omega, c0 ▸ q 0 (by decide), c1 ▸ q 1 (by decide), c2 ▸ q 2 (by decide), c3 ▸ q 3 (by decide), c4 ▸ q 4 (by decide)⟩
theorem rd_n4 {T : Int → Int} {n e : Int} (h : e ≤ n) (hk : tK T n e = 1) : rdV T n e = 583 ↔ tNm T n e 4 := by
  have b := tE_b (T := T) h
  have b3 := b.2.2 (by omega)
  have hl : fLen.getD 4 0 = 2 := rfl
  have c0 : fChr 4 0 = 117 := by decide +kernel
  have c1 : fChr 4 1 = 112 := by decide +kernel
  unfold rdV tNm
  rw [if_pos hk, rd_h4 (by omega) (tok_let h hk), hl]
  constructor
  · rintro ⟨z, z0, z1⟩
    refine ⟨hk, by omega, fun j hj => ?_⟩
    have hj2 : j = 0 ∨ j = 1 := by omega
    rcases hj2 with rfl | rfl
    · rw [c0]; exact z0
    · rw [c1]; exact z1
  · rintro ⟨-, z, q⟩
    exact ⟨by omega, c0 ▸ q 0 (by decide), c1 ▸ q 1 (by decide)⟩
theorem rd_n5 {T : Int → Int} {n e : Int} (h : e ≤ n) (hk : tK T n e = 1) : rdV T n e = 90302 ↔ tNm T n e 5 := by
  have b := tE_b (T := T) h
  have b3 := b.2.2 (by omega)
  have hl : fLen.getD 5 0 = 4 := rfl
  have c0 : fChr 5 0 = 100 := by decide +kernel
  have c1 : fChr 5 1 = 111 := by decide +kernel
  have c2 : fChr 5 2 = 119 := by decide +kernel
  have c3 : fChr 5 3 = 110 := by decide +kernel
  unfold rdV tNm
  rw [if_pos hk, rd_h5 (by omega) (tok_let h hk), hl]
  constructor
  · rintro ⟨z, z0, z1, z2, z3⟩
    refine ⟨hk, by omega, fun j hj => ?_⟩
    have hj2 : j = 0 ∨ j = 1 ∨ j = 2 ∨ j = 3 := by omega
    rcases hj2 with rfl | rfl | rfl | rfl
    · rw [c0]; exact z0
    · rw [c1]; exact z1
    · rw [c2]; exact z2
    · rw [c3]; exact z3
  · rintro ⟨-, z, q⟩
    exact ⟨by omega, c0 ▸ q 0 (by decide), c1 ▸ q 1 (by decide), c2 ▸ q 2 (by decide), c3 ▸ q 3 (by decide)⟩
theorem rd_way {T : Int → Int} {n e : Int} (h : e ≤ n) : (if rdK T n e = 0 then (if rdV T n e = 240023 then 1 else if rdV T n e = 9748424 then 2 else if rdV T n e = 583 then 3 else if rdV T n e = 90302 then 4 else 0) else 0 : Int) = tWay T n e := by
  unfold tWay
  by_cases hk : tK T n e = 1
  · rw [if_pos (rdK_0.mpr hk)]
    have e2 : tNmB T n e 2 = true ↔ rdV T n e = 240023 := tNmB_iff.trans (rd_n2 h hk).symm
    have e3 : tNmB T n e 3 = true ↔ rdV T n e = 9748424 := tNmB_iff.trans (rd_n3 h hk).symm
    have e4 : tNmB T n e 4 = true ↔ rdV T n e = 583 := tNmB_iff.trans (rd_n4 h hk).symm
    have e5 : tNmB T n e 5 = true ↔ rdV T n e = 90302 := tNmB_iff.trans (rd_n5 h hk).symm
    by_cases z2 : rdV T n e = 240023
    · rw [if_pos z2, if_pos (e2.mpr z2)]
    rw [if_neg z2, if_neg (fun z => z2 (e2.mp z))]
    by_cases z3 : rdV T n e = 9748424
    · rw [if_pos z3, if_pos (e3.mpr z3)]
    rw [if_neg z3, if_neg (fun z => z3 (e3.mp z))]
    by_cases z4 : rdV T n e = 583
    · rw [if_pos z4, if_pos (e4.mpr z4)]
    rw [if_neg z4, if_neg (fun z => z4 (e4.mp z))]
    by_cases z5 : rdV T n e = 90302
    · rw [if_pos z5, if_pos (e5.mpr z5)]
    rw [if_neg z5, if_neg (fun z => z5 (e5.mp z))]
  · rw [if_neg (fun z => hk (rdK_0.mp z))]
    have k : ∀ i, ¬ tNmB T n e i = true := fun i z => hk (tNmB_iff.mp z).1
    rw [if_neg (k 2), if_neg (k 3), if_neg (k 4), if_neg (k 5)]
/-- what an item leaves of the reference -/
def rdI (I : fM) (T : Int → Int) (n : Int) (r : PI) (J : fM) : Prop := match r with
  | .inl p => J 214 11 = 1 ∧ J 214 8 = p ∧ rdO I J
  | .inr (.inl (a, l, f, sp, h, w, e)) => J 214 11 = 0 ∧ rdT J T n e ∧ J 215 = rWord T (I 215) a l f sp h w ∧ (∀ a : Nat, a ≠ 214 → a ≠ 215 → J a = I a) ∧ (∀ b : Int, (b < 7 ∨ 11 < b) → J 214 b = I 214 b) ∧ (1 ≤ l ∧ l ≤ 12) ∧ (0 ≤ f ∧ f ≤ 2000) ∧ (1 ≤ sp ∧ sp ≤ 60) ∧ (0 ≤ h ∧ h ≤ 60) ∧ (0 ≤ w ∧ w ≤ 4) ∧ 0 ≤ e ∧ e ≤ n
  | .inr (.inr (f, e)) => J 214 11 = 0 ∧ rdT J T n e ∧ J 215 = rShot (I 215) f ∧ (∀ a : Nat, a ≠ 214 → a ≠ 215 → J a = I a) ∧ (∀ b : Int, (b < 7 ∨ 11 < b) → J 214 b = I 214 b) ∧ (1 ≤ f ∧ f ≤ 3000) ∧ 0 ≤ e ∧ e ≤ n
theorem rdO_up {I J : fM} {b x : Int} (h : rdO I J) (hb : 7 ≤ b ∧ b ≤ 11) : rdO I (fup J 214 b x) := ⟨fun a ha => by rw [fup_ne ha]; exact h.1 a ha, fun c hc => by rw [fup_j (by omega)]; exact h.2 c hc⟩
theorem rdS_eq {I J : fM} (h : rdO I J) (h11 : J 214 11 = I 214 11) (h7 : J 214 7 = tE (I 218) (I 214 6) (I 214 7)) (h8 : J 214 8 = tS (I 218) (I 214 6) (I 214 7)) (h9 : J 214 9 = rdK (I 218) (I 214 6) (I 214 7)) (h10 : J 214 10 = rdV (I 218) (I 214 6) (I 214 7)) : J = rdS I := by
  funext a b
  unfold rdS
  by_cases ha : a = 214
  · subst ha
    by_cases b7 : b = 7
    · subst b7; rw [if_pos ⟨rfl, rfl⟩]; exact h7
    by_cases b8 : b = 8
    · subst b8; rw [if_neg (by decide), if_pos ⟨rfl, rfl⟩]; exact h8
    by_cases b9 : b = 9
    · subst b9; rw [if_neg (by decide), if_neg (by decide), if_pos ⟨rfl, rfl⟩]; exact h9
    by_cases b10 : b = 10
    · subst b10; rw [if_neg (by decide), if_neg (by decide), if_neg (by decide), if_pos ⟨rfl, rfl⟩]; exact h10
    rw [if_neg (fun z => b7 z.2), if_neg (fun z => b8 z.2), if_neg (fun z => b9 z.2), if_neg (fun z => b10 z.2)]
    by_cases b11 : b = 11
    · subst b11; exact h11
    · exact h.2 b (by omega)
  · rw [if_neg (fun z => ha z.1), if_neg (fun z => ha z.1), if_neg (fun z => ha z.1), if_neg (fun z => ha z.1), h.1 a ha]
theorem rdW_n {T : Int → Int} {j k : Int} (hj : j ≤ k) (h : k - j < 5) : rdW T j (k + 1 - j).toNat = 27 * rdW T j (k - j).toNat + T k - 97 + 1 := by
  rw [show (k + 1 - j).toNat = (k - j).toNat + 1 by omega, rdW_s (by omega), show j + (((k - j).toNat : Nat) : Int) = k by omega]
theorem rdD_n {T : Int → Int} {j k : Int} (hj : j ≤ k) : rdD T j (k + 1 - j).toNat = if rdD T j (k - j).toNat < 10000 then 10 * rdD T j (k - j).toNat + T k - 48 else rdD T j (k - j).toNat := by
  rw [show (k + 1 - j).toNat = (k - j).toNat + 1 by omega]
  show (if _ then 10 * rdD T j (k - j).toNat + T (j + (((k - j).toNat : Nat) : Int)) - 48 else _) = _
  rw [show j + (((k - j).toNat : Nat) : Int) = k by omega]
