/-! BASE 4: bit rows -/
section FV
variable {p : Program} {l : Launch} {e : Env} {R : Room} {s : State} {m : MethodId} {args : Array Value} {below : List Frame} {meth : Method} {c : Code} {Q : State → Prop} {A : Nat → Prop} {Γ : fG} {N nL kc ks : Nat} {I : fM} {P : fN} {pc pc' : Nat} {lv lv' : List (Nat × Value)} {st rest : List Value} {cc : ByteArray} {own : String} {Ts : List Cond} {ret : Option FieldType}
theorem fV_ishl (G : fC p s m args meth c cc own Ts A Γ N nL ret) {x y : Int32} (hdg : decode cc pc = .ok (.ishl, 1)) (hpc : pc + 1 = pc') (k : fV p l e R s m args below meth c Q A Γ N nL kc ks I P pc' lv (.int (x <<< (y &&& 31)) :: st)) : fV p l e R s m args below meth c Q A Γ N nL kc ks I P pc lv (.int y :: .int x :: st) := by
  subst hpc
  exact fun H locs ls hP hS hl => lv_ishl G.1 G.2.1 hdg (k H locs ls hP hS hl)
theorem fV_ior (G : fC p s m args meth c cc own Ts A Γ N nL ret) {x y : Int32} (hdg : decode cc pc = .ok (.ior, 1)) (hpc : pc + 1 = pc') (k : fV p l e R s m args below meth c Q A Γ N nL kc ks I P pc' lv (.int (x ||| y) :: st)) : fV p l e R s m args below meth c Q A Γ N nL kc ks I P pc lv (.int y :: .int x :: st) := by
  subst hpc
  exact fun H locs ls hP hS hl => lv_ior G.1 G.2.1 hdg (k H locs ls hP hS hl)
theorem fV_iand (G : fC p s m args meth c cc own Ts A Γ N nL ret) {x y : Int32} (hdg : decode cc pc = .ok (.iand, 1)) (hpc : pc + 1 = pc') (k : fV p l e R s m args below meth c Q A Γ N nL kc ks I P pc' lv (.int (x &&& y) :: st)) : fV p l e R s m args below meth c Q A Γ N nL kc ks I P pc lv (.int y :: .int x :: st) := by
  subst hpc
  exact fun H locs ls hP hS hl => lv_iand G.1 G.2.1 hdg (k H locs ls hP hS hl)
theorem fV_lshl (G : fC p s m args meth c cc own Ts A Γ N nL ret) {x : Int64} {y : Int32} (hdg : decode cc pc = .ok (.lshl, 1)) (hpc : pc + 1 = pc') (k : fV p l e R s m args below meth c Q A Γ N nL kc ks I P pc' lv (.long (x <<< (y.toInt64 &&& 63)) :: st)) : fV p l e R s m args below meth c Q A Γ N nL kc ks I P pc lv (.int y :: .long x :: st) := by
  subst hpc
  exact fun H locs ls hP hS hl => lv_lshl G.1 G.2.1 hdg rfl (k H locs ls hP hS hl)
theorem fV_lor (G : fC p s m args meth c cc own Ts A Γ N nL ret) {x y : Int64} (hdg : decode cc pc = .ok (.lor, 1)) (hpc : pc + 1 = pc') (k : fV p l e R s m args below meth c Q A Γ N nL kc ks I P pc' lv (.long (x ||| y) :: st)) : fV p l e R s m args below meth c Q A Γ N nL kc ks I P pc lv (.long y :: .long x :: st) := by
  subst hpc
  exact fun H locs ls hP hS hl => lv_lor G.1 G.2.1 hdg (k H locs ls hP hS hl)
end FV
/-- a set of words by its bits -/
def sSet (c : Int → Bool) (n : Int) : Int32 := (List.range n.toNat).foldl (fun (a : Int32) (i : Nat) => if c (i : Int) then a ||| (i32 1 <<< (i32 (i : Int) &&& 31)) else a) (i32 0)
theorem sSet_0 (c : Int → Bool) : sSet c 0 = i32 0 := rfl
theorem sSet_s {c : Int → Bool} {n : Int} (h : 0 ≤ n) : sSet c (n + 1) = if c n then sSet c n ||| (i32 1 <<< (i32 n &&& 31)) else sSet c n := by
  unfold sSet
  rw [show (n + 1).toNat = n.toNat + 1 by omega, List.range_succ, List.foldl_append]
  show (if c (n.toNat : Int) then _ ||| (i32 1 <<< (i32 (n.toNat : Int) &&& 31)) else _) = _
  rw [show ((n.toNat : Nat) : Int) = n by omega]
theorem sSet_c {c d : Int → Bool} {n : Int} (h : ∀ i, 0 ≤ i → i < n → c i = d i) : sSet c n = sSet d n := by
  have key : ∀ k : Nat, (k : Int) ≤ n → sSet c k = sSet d k := by
    intro k
    induction k with
    | zero => intro _; rfl
    | succ k ih =>
      intro hk
      have e1 : sSet c ((k + 1 : Nat) : Int) = _ := sSet_s (c := c) (n := k) (by omega)
      have e2 : sSet d ((k + 1 : Nat) : Int) = _ := sSet_s (c := d) (n := k) (by omega)
      rw [e1, e2, ih (by omega), h k (by omega) (by omega)]
  rcases Int.lt_or_le n 0 with q | q
  · unfold sSet
    rw [show n.toNat = 0 by omega]
    rfl
  · have := key n.toNat (by omega)
    rw [show ((n.toNat : Nat) : Int) = n by omega] at this
    exact this
/-- the float sum of how fast one has to read -/
def sPaceF (len fi sp : Int → Int) (f n : Int) : UInt32 := (List.range n.toNat).foldl (fun (a : UInt32) (i : Nat) => if fi (i : Int) ≤ f ∧ f < fi (i : Int) + sp (i : Int) then FP.fadd a (FP.fdiv (FP.i2f (i32 (len (i : Int)))) (FP.i2f (i32 (sp (i : Int))))) else a) FP.fconst0
theorem sPaceF_s {len fi sp : Int → Int} {f n : Int} (h : 0 ≤ n) : sPaceF len fi sp f (n + 1) = if fi n ≤ f ∧ f < fi n + sp n then FP.fadd (sPaceF len fi sp f n) (FP.fdiv (FP.i2f (i32 (len n))) (FP.i2f (i32 (sp n)))) else sPaceF len fi sp f n := by
  unfold sPaceF
  rw [show (n + 1).toNat = n.toNat + 1 by omega, List.range_succ, List.foldl_append]
  show (if fi (n.toNat : Int) ≤ f ∧ f < fi (n.toNat : Int) + sp (n.toNat : Int) then FP.fadd _ (FP.fdiv (FP.i2f (i32 (len (n.toNat : Int)))) (FP.i2f (i32 (sp (n.toNat : Int))))) else _) = _
  rw [show ((n.toNat : Nat) : Int) = n by omega]
/-- letters by frames: a number, finite -/
def flQ (a b : Nat) : Bool := match FP.Core.val32 (FP.fdiv (FP.i2f (i32 ((a : Int) + 1))) (FP.i2f (i32 ((b : Int) + 1)))) with
  | .fin _ _ _ => true
  | _ => false
theorem flQ_all : ∀ a, a < 12 → ∀ b, b < 60 → flQ a b = true := by decide +kernel
theorem flq_fin {a b : Int} (ha : 1 ≤ a ∧ a ≤ 12) (hb : 1 ≤ b ∧ b ≤ 60) : FP.Core.FFin (FP.fdiv (FP.i2f (i32 a)) (FP.i2f (i32 b))) := by
  have h := flQ_all (a - 1).toNat (by omega) (b - 1).toNat (by omega)
  unfold flQ at h
  rw [show (((a - 1).toNat : Nat) : Int) + 1 = a by omega, show (((b - 1).toNat : Nat) : Int) + 1 = b by omega] at h
  split at h
  · rename_i s c q e
    exact ⟨s, c, q, e⟩
  · cases h
theorem fin_nan {r : UInt32} (h : FP.Core.FFin r) : FP.Core.fIsNaN r = false := by
  obtain ⟨s, c, q, e⟩ := h
  rw [FP.Core.notNaN_iff32, e]
  exact fun z => by cases z
theorem flq_n {a b : Int} (ha : 1 ≤ a ∧ a ≤ 12) (hb : 1 ≤ b ∧ b ≤ 60) : vf_n32 (FP.fdiv (FP.i2f (i32 a)) (FP.i2f (i32 b))) := vf_of_nan (fin_nan (flq_fin ha hb))
theorem sPaceF_n {len fi sp : Int → Int} {f n : Int} (hl : ∀ i, 0 ≤ i → i < n → (1 ≤ len i ∧ len i ≤ 12) ∧ 1 ≤ sp i ∧ sp i ≤ 60) : ∀ k : Nat, (k : Int) ≤ n → FP.Core.fIsNaN (sPaceF len fi sp f k) = false := by
  intro k
  induction k with
  | zero => intro _; show FP.Core.fIsNaN FP.fconst0 = false; decide +kernel
  | succ k ih =>
    intro hk
    have e : sPaceF len fi sp f ((k + 1 : Nat) : Int) = _ := sPaceF_s (len := len) (fi := fi) (sp := sp) (f := f) (n := k) (by omega)
    rw [e]
    have hk2 := hl k (by omega) (by omega)
    split
    · exact FP.Core.fadd_out (ih (by omega)) (flq_fin hk2.1 hk2.2)
    · exact ih (by omega)
theorem sPaceF_ni {len fi sp : Int → Int} {f n k : Int} (hl : ∀ i, 0 ≤ i → i < n → (1 ≤ len i ∧ len i ≤ 12) ∧ 1 ≤ sp i ∧ sp i ≤ 60) (h0 : 0 ≤ k) (hk : k ≤ n) : FP.Core.fIsNaN (sPaceF len fi sp f k) = false := by
  have := sPaceF_n (fi := fi) (f := f) hl k.toNat (by omega)
  rw [show ((k.toNat : Nat) : Int) = k by omega] at this
  exact this
theorem sPaceF_m {r : UInt32} (h : FP.Core.fIsNaN r = false) : vf_n32 (FP.fmul r 1103626240) := vf_of_nan (FP.Core.fmul_out' h ((FP.Core.fin_bits32 _).mpr (by decide)) (fun z => by
  obtain ⟨s, q, e⟩ := z
  have : FP.Core.val32 1103626240 = .fin false 13107200 (-19) := by decide +kernel
  rw [this] at e
  cases e))
abbrev sVis (pct n : Int) (sh r : Int → Int) (f : Int) : Prop := r 6 = 1 ∧ r 2 ≤ f ∧ f < sGone pct n sh r
theorem wb_c9 : ∀ k : Nat, k < 64 → (i32 (k : Int)).toInt64 &&& 63 = lN k := by decide +kernel
theorem wb_s9 : ∀ k : Nat, k < 64 → (i64 1 <<< lN k).toBitVec = BitVec.twoPow 64 k := by decide +kernel
/-- a long's bits are the places of S -/
def sBits (L : Int64) (S : Int → Prop) : Prop := ∀ j : Nat, j < 64 → (L.toBitVec.getLsbD j = true ↔ S (j : Int))
theorem sBits_0 : sBits (i64 0) (fun _ => False) := by
  intro j hj
  have : (i64 0).toBitVec = 0#64 := rfl
  rw [this]
  simp
theorem sBits_or {L : Int64} {S : Int → Prop} {c : Int} (h : sBits L S) (hc : 0 ≤ c ∧ c < 64) : sBits (L ||| (i64 1 <<< ((i32 c).toInt64 &&& 63))) (fun j => S j ∨ j = c) := by
  obtain ⟨k, hk⟩ : ∃ k : Nat, (k : Int) = c := ⟨c.toNat, by omega⟩
  subst hk
  have hk : k < 64 := by omega
  have e1 : (i32 (k : Int)).toInt64 &&& 63 = lN k := wb_c9 k hk
  intro j hj
  rw [e1, Int64.toBitVec_or, BitVec.getLsbD_or]
  have e2 : (i64 1 <<< lN k).toBitVec = BitVec.twoPow 64 k := wb_s9 k hk
  rw [e2, BitVec.getLsbD_twoPow]
  have := h j hj
  simp only [Bool.or_eq_true, this, Bool.and_eq_true, decide_eq_true_eq]
  constructor
  · rintro (q | ⟨-, q⟩)
    · exact Or.inl q
    · exact Or.inr (by omega)
  · rintro (q | q)
    · exact Or.inl q
    · exact Or.inr ⟨by omega, by omega⟩
/-- which of two words is put first -/
abbrev sBefore (r q : Int → Int) : Prop := r 2 < q 2 ∨ r 2 = q 2 ∧ q 1 < r 1
