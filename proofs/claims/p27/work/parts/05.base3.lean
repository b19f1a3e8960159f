/-! BASE 3: branches, fields, arrays, calls, returns -/
section FV
variable {p : Program} {l : Launch} {e : Env} {R : Room} {s : State} {m : MethodId} {args : Array Value} {below : List Frame} {meth : Method} {c : Code} {Q : State → Prop} {A : Nat → Prop} {Γ : fG} {N nL kc ks : Nat} {I : fM} {P : fN} {pc pc' : Nat} {lv lv' : List (Nat × Value)} {st rest : List Value} {cc : ByteArray} {own : String} {Ts : List Cond} {ret : Option FieldType}

theorem fV_icmp_eq (G : fC p s m args meth c cc own Ts A Γ N nL ret) {a b : Int} {off : Int} {tgt : Nat} (hdg : decode cc pc = .ok (.if_icmp .eq off, 3)) (ht : (pc : Int) + off = (tgt : Int)) (hpc : pc + 3 = pc') (ha : -2147483648 ≤ a ∧ a ≤ 2147483647) (hb : -2147483648 ≤ b ∧ b ≤ 2147483647) (kt : a = b → fV p l e R s m args below meth c Q A Γ N nL kc ks I P tgt lv st) (kf : ¬ (a = b) → fV p l e R s m args below meth c Q A Γ N nL kc ks I P pc' lv st) : fV p l e R s m args below meth c Q A Γ N nL kc ks I P pc lv (.int (i32 b) :: .int (i32 a) :: st) := by
  subst hpc
  have hiff := i32_eq ha hb
  exact fun H locs ls hP hS hl => lv_icmp_eq G.1 G.2.1 hdg ht (fun z => kt (by first | exact hiff.mp z | (apply hiff.mp; simpa using z) | (simp only [ne_eq] at z; exact hiff.mp z)) H locs ls hP hS hl) (fun z => kf (by first | exact fun q => z (hiff.mpr q) | (intro q; apply z; simpa using hiff.mpr q)) H locs ls hP hS hl)
theorem fV_if_eq (G : fC p s m args meth c cc own Ts A Γ N nL ret) {a : Int} {off : Int} {tgt : Nat} (hdg : decode cc pc = .ok (.ifCond .eq off, 3)) (ht : (pc : Int) + off = (tgt : Int)) (hpc : pc + 3 = pc') (ha : -2147483648 ≤ a ∧ a ≤ 2147483647) (kt : a = 0 → fV p l e R s m args below meth c Q A Γ N nL kc ks I P tgt lv st) (kf : ¬ (a = 0) → fV p l e R s m args below meth c Q A Γ N nL kc ks I P pc' lv st) : fV p l e R s m args below meth c Q A Γ N nL kc ks I P pc lv (.int (i32 a) :: st) := by
  subst hpc
  have hiff := i32_eq (b := 0) ha (by omega)
  exact fun H locs ls hP hS hl => lv_if_eq G.1 G.2.1 hdg ht (fun z => kt (by first | exact hiff.mp z | (apply hiff.mp; simpa using z) | (simp only [ne_eq] at z; exact hiff.mp z)) H locs ls hP hS hl) (fun z => kf (by first | exact fun q => z (hiff.mpr q) | (intro q; apply z; simpa using hiff.mpr q)) H locs ls hP hS hl)
theorem fV_icmp_ne (G : fC p s m args meth c cc own Ts A Γ N nL ret) {a b : Int} {off : Int} {tgt : Nat} (hdg : decode cc pc = .ok (.if_icmp .ne off, 3)) (ht : (pc : Int) + off = (tgt : Int)) (hpc : pc + 3 = pc') (ha : -2147483648 ≤ a ∧ a ≤ 2147483647) (hb : -2147483648 ≤ b ∧ b ≤ 2147483647) (kt : ¬ a = b → fV p l e R s m args below meth c Q A Γ N nL kc ks I P tgt lv st) (kf : a = b → fV p l e R s m args below meth c Q A Γ N nL kc ks I P pc' lv st) : fV p l e R s m args below meth c Q A Γ N nL kc ks I P pc lv (.int (i32 b) :: .int (i32 a) :: st) := by
  subst hpc
  have hiff := i32_eq ha hb
  exact fun H locs ls hP hS hl => lv_icmp_ne G.1 G.2.1 hdg ht (fun z => kt (fun q => z (hiff.mpr q)) H locs ls hP hS hl) (fun z => kf (hiff.mp z) H locs ls hP hS hl)
theorem fV_if_ne (G : fC p s m args meth c cc own Ts A Γ N nL ret) {a : Int} {off : Int} {tgt : Nat} (hdg : decode cc pc = .ok (.ifCond .ne off, 3)) (ht : (pc : Int) + off = (tgt : Int)) (hpc : pc + 3 = pc') (ha : -2147483648 ≤ a ∧ a ≤ 2147483647) (kt : ¬ a = 0 → fV p l e R s m args below meth c Q A Γ N nL kc ks I P tgt lv st) (kf : a = 0 → fV p l e R s m args below meth c Q A Γ N nL kc ks I P pc' lv st) : fV p l e R s m args below meth c Q A Γ N nL kc ks I P pc lv (.int (i32 a) :: st) := by
  subst hpc
  have hiff := i32_eq (b := 0) ha (by omega)
  exact fun H locs ls hP hS hl => lv_if_ne G.1 G.2.1 hdg ht (fun z => kt (fun q => z (hiff.mpr q)) H locs ls hP hS hl) (fun z => kf (hiff.mp z) H locs ls hP hS hl)
theorem fV_icmp_lt (G : fC p s m args meth c cc own Ts A Γ N nL ret) {a b : Int} {off : Int} {tgt : Nat} (hdg : decode cc pc = .ok (.if_icmp .lt off, 3)) (ht : (pc : Int) + off = (tgt : Int)) (hpc : pc + 3 = pc') (ha : -2147483648 ≤ a ∧ a ≤ 2147483647) (hb : -2147483648 ≤ b ∧ b ≤ 2147483647) (kt : a < b → fV p l e R s m args below meth c Q A Γ N nL kc ks I P tgt lv st) (kf : ¬ (a < b) → fV p l e R s m args below meth c Q A Γ N nL kc ks I P pc' lv st) : fV p l e R s m args below meth c Q A Γ N nL kc ks I P pc lv (.int (i32 b) :: .int (i32 a) :: st) := by
  subst hpc
  have hiff := i32_lt ha hb
  exact fun H locs ls hP hS hl => lv_icmp_lt G.1 G.2.1 hdg ht (fun z => kt (by first | exact hiff.mp z | (apply hiff.mp; simpa using z) | (simp only [ne_eq] at z; exact hiff.mp z)) H locs ls hP hS hl) (fun z => kf (by first | exact fun q => z (hiff.mpr q) | (intro q; apply z; simpa using hiff.mpr q)) H locs ls hP hS hl)
theorem fV_if_lt (G : fC p s m args meth c cc own Ts A Γ N nL ret) {a : Int} {off : Int} {tgt : Nat} (hdg : decode cc pc = .ok (.ifCond .lt off, 3)) (ht : (pc : Int) + off = (tgt : Int)) (hpc : pc + 3 = pc') (ha : -2147483648 ≤ a ∧ a ≤ 2147483647) (kt : a < 0 → fV p l e R s m args below meth c Q A Γ N nL kc ks I P tgt lv st) (kf : ¬ (a < 0) → fV p l e R s m args below meth c Q A Γ N nL kc ks I P pc' lv st) : fV p l e R s m args below meth c Q A Γ N nL kc ks I P pc lv (.int (i32 a) :: st) := by
  subst hpc
  have hiff := i32_lt (b := 0) ha (by omega)
  exact fun H locs ls hP hS hl => lv_if_lt G.1 G.2.1 hdg ht (fun z => kt (by first | exact hiff.mp z | (apply hiff.mp; simpa using z) | (simp only [ne_eq] at z; exact hiff.mp z)) H locs ls hP hS hl) (fun z => kf (by first | exact fun q => z (hiff.mpr q) | (intro q; apply z; simpa using hiff.mpr q)) H locs ls hP hS hl)
theorem fV_icmp_ge (G : fC p s m args meth c cc own Ts A Γ N nL ret) {a b : Int} {off : Int} {tgt : Nat} (hdg : decode cc pc = .ok (.if_icmp .ge off, 3)) (ht : (pc : Int) + off = (tgt : Int)) (hpc : pc + 3 = pc') (ha : -2147483648 ≤ a ∧ a ≤ 2147483647) (hb : -2147483648 ≤ b ∧ b ≤ 2147483647) (kt : b ≤ a → fV p l e R s m args below meth c Q A Γ N nL kc ks I P tgt lv st) (kf : ¬ (b ≤ a) → fV p l e R s m args below meth c Q A Γ N nL kc ks I P pc' lv st) : fV p l e R s m args below meth c Q A Γ N nL kc ks I P pc lv (.int (i32 b) :: .int (i32 a) :: st) := by
  subst hpc
  have hiff := i32_le hb ha
  exact fun H locs ls hP hS hl => lv_icmp_ge G.1 G.2.1 hdg ht (fun z => kt (by first | exact hiff.mp z | (apply hiff.mp; simpa using z) | (simp only [ne_eq] at z; exact hiff.mp z)) H locs ls hP hS hl) (fun z => kf (by first | exact fun q => z (hiff.mpr q) | (intro q; apply z; simpa using hiff.mpr q)) H locs ls hP hS hl)
theorem fV_if_ge (G : fC p s m args meth c cc own Ts A Γ N nL ret) {a : Int} {off : Int} {tgt : Nat} (hdg : decode cc pc = .ok (.ifCond .ge off, 3)) (ht : (pc : Int) + off = (tgt : Int)) (hpc : pc + 3 = pc') (ha : -2147483648 ≤ a ∧ a ≤ 2147483647) (kt : 0 ≤ a → fV p l e R s m args below meth c Q A Γ N nL kc ks I P tgt lv st) (kf : ¬ (0 ≤ a) → fV p l e R s m args below meth c Q A Γ N nL kc ks I P pc' lv st) : fV p l e R s m args below meth c Q A Γ N nL kc ks I P pc lv (.int (i32 a) :: st) := by
  subst hpc
  have hiff := i32_le (a := 0) (by omega) ha
  exact fun H locs ls hP hS hl => lv_if_ge G.1 G.2.1 hdg ht (fun z => kt (by first | exact hiff.mp z | (apply hiff.mp; simpa using z) | (simp only [ne_eq] at z; exact hiff.mp z)) H locs ls hP hS hl) (fun z => kf (by first | exact fun q => z (hiff.mpr q) | (intro q; apply z; simpa using hiff.mpr q)) H locs ls hP hS hl)
theorem fV_icmp_gt (G : fC p s m args meth c cc own Ts A Γ N nL ret) {a b : Int} {off : Int} {tgt : Nat} (hdg : decode cc pc = .ok (.if_icmp .gt off, 3)) (ht : (pc : Int) + off = (tgt : Int)) (hpc : pc + 3 = pc') (ha : -2147483648 ≤ a ∧ a ≤ 2147483647) (hb : -2147483648 ≤ b ∧ b ≤ 2147483647) (kt : b < a → fV p l e R s m args below meth c Q A Γ N nL kc ks I P tgt lv st) (kf : ¬ (b < a) → fV p l e R s m args below meth c Q A Γ N nL kc ks I P pc' lv st) : fV p l e R s m args below meth c Q A Γ N nL kc ks I P pc lv (.int (i32 b) :: .int (i32 a) :: st) := by
  subst hpc
  have hiff := i32_lt hb ha
  exact fun H locs ls hP hS hl => lv_icmp_gt G.1 G.2.1 hdg ht (fun z => kt (by first | exact hiff.mp z | (apply hiff.mp; simpa using z) | (simp only [ne_eq] at z; exact hiff.mp z)) H locs ls hP hS hl) (fun z => kf (by first | exact fun q => z (hiff.mpr q) | (intro q; apply z; simpa using hiff.mpr q)) H locs ls hP hS hl)
theorem fV_if_gt (G : fC p s m args meth c cc own Ts A Γ N nL ret) {a : Int} {off : Int} {tgt : Nat} (hdg : decode cc pc = .ok (.ifCond .gt off, 3)) (ht : (pc : Int) + off = (tgt : Int)) (hpc : pc + 3 = pc') (ha : -2147483648 ≤ a ∧ a ≤ 2147483647) (kt : 0 < a → fV p l e R s m args below meth c Q A Γ N nL kc ks I P tgt lv st) (kf : ¬ (0 < a) → fV p l e R s m args below meth c Q A Γ N nL kc ks I P pc' lv st) : fV p l e R s m args below meth c Q A Γ N nL kc ks I P pc lv (.int (i32 a) :: st) := by
  subst hpc
  have hiff := i32_lt (a := 0) (by omega) ha
  exact fun H locs ls hP hS hl => lv_if_gt G.1 G.2.1 hdg ht (fun z => kt (by first | exact hiff.mp z | (apply hiff.mp; simpa using z) | (simp only [ne_eq] at z; exact hiff.mp z)) H locs ls hP hS hl) (fun z => kf (by first | exact fun q => z (hiff.mpr q) | (intro q; apply z; simpa using hiff.mpr q)) H locs ls hP hS hl)
theorem fV_icmp_le (G : fC p s m args meth c cc own Ts A Γ N nL ret) {a b : Int} {off : Int} {tgt : Nat} (hdg : decode cc pc = .ok (.if_icmp .le off, 3)) (ht : (pc : Int) + off = (tgt : Int)) (hpc : pc + 3 = pc') (ha : -2147483648 ≤ a ∧ a ≤ 2147483647) (hb : -2147483648 ≤ b ∧ b ≤ 2147483647) (kt : a ≤ b → fV p l e R s m args below meth c Q A Γ N nL kc ks I P tgt lv st) (kf : ¬ (a ≤ b) → fV p l e R s m args below meth c Q A Γ N nL kc ks I P pc' lv st) : fV p l e R s m args below meth c Q A Γ N nL kc ks I P pc lv (.int (i32 b) :: .int (i32 a) :: st) := by
  subst hpc
  have hiff := i32_le ha hb
  exact fun H locs ls hP hS hl => lv_icmp_le G.1 G.2.1 hdg ht (fun z => kt (by first | exact hiff.mp z | (apply hiff.mp; simpa using z) | (simp only [ne_eq] at z; exact hiff.mp z)) H locs ls hP hS hl) (fun z => kf (by first | exact fun q => z (hiff.mpr q) | (intro q; apply z; simpa using hiff.mpr q)) H locs ls hP hS hl)
theorem fV_if_le (G : fC p s m args meth c cc own Ts A Γ N nL ret) {a : Int} {off : Int} {tgt : Nat} (hdg : decode cc pc = .ok (.ifCond .le off, 3)) (ht : (pc : Int) + off = (tgt : Int)) (hpc : pc + 3 = pc') (ha : -2147483648 ≤ a ∧ a ≤ 2147483647) (kt : a ≤ 0 → fV p l e R s m args below meth c Q A Γ N nL kc ks I P tgt lv st) (kf : ¬ (a ≤ 0) → fV p l e R s m args below meth c Q A Γ N nL kc ks I P pc' lv st) : fV p l e R s m args below meth c Q A Γ N nL kc ks I P pc lv (.int (i32 a) :: st) := by
  subst hpc
  have hiff := i32_le (b := 0) ha (by omega)
  exact fun H locs ls hP hS hl => lv_if_le G.1 G.2.1 hdg ht (fun z => kt (by first | exact hiff.mp z | (apply hiff.mp; simpa using z) | (simp only [ne_eq] at z; exact hiff.mp z)) H locs ls hP hS hl) (fun z => kf (by first | exact fun q => z (hiff.mpr q) | (intro q; apply z; simpa using hiff.mpr q)) H locs ls hP hS hl)
theorem fB_0 {b : Bool} : fB b = 0 ↔ b = false := by cases b <;> simp [fB]
theorem fV_ifeq_b (G : fC p s m args meth c cc own Ts A Γ N nL ret) {b : Bool} {off : Int} {tgt : Nat} (hdg : decode cc pc = .ok (.ifCond .eq off, 3)) (ht : (pc : Int) + off = (tgt : Int)) (hpc : pc + 3 = pc') (kt : b = false → fV p l e R s m args below meth c Q A Γ N nL kc ks I P tgt lv st) (kf : b = true → fV p l e R s m args below meth c Q A Γ N nL kc ks I P pc' lv st) : fV p l e R s m args below meth c Q A Γ N nL kc ks I P pc lv (.int (i32 (fB b)) :: st) :=
  fV_if_eq G hdg ht hpc (fB_r b) (fun z => kt (fB_0.mp z)) (fun z => kf (by cases b with | false => exact absurd rfl z | true => rfl))
theorem fV_ifne_b (G : fC p s m args meth c cc own Ts A Γ N nL ret) {b : Bool} {off : Int} {tgt : Nat} (hdg : decode cc pc = .ok (.ifCond .ne off, 3)) (ht : (pc : Int) + off = (tgt : Int)) (hpc : pc + 3 = pc') (kt : b = true → fV p l e R s m args below meth c Q A Γ N nL kc ks I P tgt lv st) (kf : b = false → fV p l e R s m args below meth c Q A Γ N nL kc ks I P pc' lv st) : fV p l e R s m args below meth c Q A Γ N nL kc ks I P pc lv (.int (i32 (fB b)) :: st) :=
  fV_if_ne G hdg ht hpc (fB_r b) (fun z => kt (by cases b with | false => exact absurd rfl z | true => rfl)) (fun z => kf (fB_0.mp z))
theorem fV_top {a b : Int} (h : a = b) (k : fV p l e R s m args below meth c Q A Γ N nL kc ks I P pc lv (.int (i32 b) :: st)) : fV p l e R s m args below meth c Q A Γ N nL kc ks I P pc lv (.int (i32 a) :: st) := by subst h; exact k
theorem fV_st {st' : List Value} (h : st = st') (k : fV p l e R s m args below meth c Q A Γ N nL kc ks I P pc lv st') : fV p l e R s m args below meth c Q A Γ N nL kc ks I P pc lv st := by subst h; exact k
theorem fV_lv (ks9 : List Nat) (h : lv_pick lv ks9 = lv') (k : fV p l e R s m args below meth c Q A Γ N nL kc ks I P pc lv' st) : fV p l e R s m args below meth c Q A Γ N nL kc ks I P pc lv st := fun H locs ls hP hS hl => k H locs ls hP hS (lv_sub hl ks9 h)
theorem fV_mem {I' : fM} {P' : fN} (h : I = I') (h2 : P = P') (k : fV p l e R s m args below meth c Q A Γ N nL kc ks I' P' pc lv st) : fV p l e R s m args below meth c Q A Γ N nL kc ks I P pc lv st := by subst h; subst h2; exact k
theorem fV_lookup (G : fC p s m args meth c cc own Ts A Γ N nL ret) {dflt : Int} {ps : Array (Int × Int)} {len : Nat} {a off : Int} {tgt : Nat} (hdg : decode cc pc = .ok (.lookupswitch dflt ps, len)) (ha : -2147483648 ≤ a ∧ a ≤ 2147483647) (hp : (ps.toList.zip (ps.toList.drop 1)).all (fun (a, next) => a.1 < next.1) = true) (ho : Op.lookupswitch.offset ps.toList dflt a = off) (ht : (pc : Int) + off = (tgt : Int)) (k : fV p l e R s m args below meth c Q A Γ N nL kc ks I P tgt lv st) : fV p l e R s m args below meth c Q A Γ N nL kc ks I P pc lv (.int (i32 a) :: st) :=
  fun H locs ls hP hS hl => lv_lookup G.1 G.2.1 hdg hp (by rw [i32_toInt ha]; exact ho) ht (k H locs ls hP hS hl)
theorem fV_tableIn (G : fC p s m args meth c cc own Ts A Γ N nL ret) {dflt lo hi : Int} {offs : Array Int} {len : Nat} {a off : Int} {tgt : Nat} (hdg : decode cc pc = .ok (.tableswitch dflt lo hi offs, len)) (ha : -2147483648 ≤ a ∧ a ≤ 2147483647) (h1 : ¬ a < lo) (h2 : ¬ hi < a) (ho : offs[(a - lo).toNat]? = some off) (ht : (pc : Int) + off = (tgt : Int)) (k : fV p l e R s m args below meth c Q A Γ N nL kc ks I P tgt lv st) : fV p l e R s m args below meth c Q A Γ N nL kc ks I P pc lv (.int (i32 a) :: st) :=
  fun H locs ls hP hS hl => lv_tableIn G.1 G.2.1 hdg (by rw [i32_toInt ha]; exact h1) (by rw [i32_toInt ha]; exact h2) (by rw [i32_toInt ha]; exact ho) ht (k H locs ls hP hS hl)
theorem fV_tableOut (G : fC p s m args meth c cc own Ts A Γ N nL ret) {dflt lo hi : Int} {offs : Array Int} {len : Nat} {a : Int} {tgt : Nat} (hdg : decode cc pc = .ok (.tableswitch dflt lo hi offs, len)) (ha : -2147483648 ≤ a ∧ a ≤ 2147483647) (h : a < lo ∨ hi < a) (ht : (pc : Int) + dflt = (tgt : Int)) (k : fV p l e R s m args below meth c Q A Γ N nL kc ks I P tgt lv st) : fV p l e R s m args below meth c Q A Γ N nL kc ks I P pc lv (.int (i32 a) :: st) :=
  fun H locs ls hP hS hl => lv_tableOut G.1 G.2.1 hdg (by rw [i32_toInt ha]; exact h) ht (k H locs ls hP hS hl)
theorem fV_get (G : fC p s m args meth c cc own Ts A Γ N nL ret) {index ci j k K : Nat} {fs : List Value} {v : Value} (hf : fFl Ts own index ci j) (hkN : k < N) (hk : fkd k = K) (he : fen Γ K k (I k) (P k) = .inr (ci, fs)) (hv : fs[j]? = some v) (hdg : decode cc pc = .ok (.getfield index, 3)) (hpc : pc + 3 = pc') (kk : fV p l e R s m args below meth c Q A Γ N nL kc ks I P pc' lv (v :: st)) : fV p l e R s m args below meth c Q A Γ N nL kc ks I P pc lv (.ref (Γ.1 k) :: st) := by
  subst hpc
  obtain ⟨⟨C, T, NN⟩, hc, hj, hin, hlk, hcl, -⟩ := hf
  obtain ⟨hx, hb, -, hown, hts, hK, -⟩ := G
  intro H locs ls hP hS hl
  exact va_get (ref := C) hx hb hts hin hown hK hP k (fws_at hkN hk he) hc j hj (hts _ hlk) (fun x h => by dsimp only at hcl; rw [hcl] at h; exact h) hv hdg (kk H locs ls hP hS hl)
/-- a row of the memory with one place changed -/
def rup (r : Int → Int) (j x : Int) : Int → Int := fun b => if b = j then x else r b
theorem fup_row (I : fM) (k : Nat) (j x : Int) : fup I k j x k = rup (I k) j x := by funext b; simp [fup, rup]
theorem fup_ne {I : fM} {k a : Nat} {j x : Int} (h : a ≠ k) : fup I k j x a = I a := by funext b; simp [fup, h]
theorem fuq_ne {P : fN} {k a : Nat} {j : Int} {x : Nat} (h : a ≠ k) : fuq P k j x a = P a := by funext b; simp [fuq, h]
theorem fV_put (G : fC p s m args meth c cc own Ts A Γ N nL ret) {index ci j k K : Nat} {fs : List Value} {v : Value} {jj x : Int} {ty : FieldType} (hf : fFl Ts own index ci j) (hkN : k < N) (hk : fkd k = K) (he : fen Γ K k (I k) (P k) = .inr (ci, fs)) (he2 : fen Γ K k (rup (I k) jj x) (P k) = .inr (ci, fs.set j v)) (hfin : ∀ q : vw_C, vwCl[ci]? = some q → (q.2.1 j).2.2.2 = false ∧ parseFieldDescriptor (q.2.1 j).2.2.1 = some ty) (hn : narrow ty v = v) (hfit : fits ty v = true) (hl9 : j < fs.length) (hdg : decode cc pc = .ok (.putfield index, 3)) (hpc : pc + 3 = pc') (kk : ∀ I' : fM, I' = fup I k jj x → fV p l e R s m args below meth c Q A Γ N nL kc ks I' P pc' lv st) : fV p l e R s m args below meth c Q A Γ N nL kc ks I P pc lv (v :: .ref (Γ.1 k) :: st) := by
  subst hpc
  obtain ⟨⟨C, T, NN⟩, hc, hj, hin, hlk, hcl, hty⟩ := hf
  obtain ⟨hx, hb, -, hown, hts, hK, hinj, hA, -⟩ := G
  obtain ⟨hfi, hde⟩ := hfin _ hc
  obtain ⟨ty0, hty0, hnm⟩ := hty hfi
  intro H locs ls hP hS hl
  refine va_put (ref := C) hx hb hts hin ty0 hty0 hnm hown hK hP (fD_of hinj hA) hS k (fws_at hkN hk he) hc j hj (hts _ hlk) (fun x h => by dsimp only at hcl; rw [hcl] at h; exact h) hfi hde hn hfit hl9 hdg (fun H1 locs1 hP1 _ hS1 => ?_)
  rw [fws_set (I' := fup I k jj x) (P' := P) hk (fun a h => fup_ne h) (fun _ _ => rfl) (by rw [fup_row]; exact he2)] at hP1
  exact kk _ rfl H1 locs1 ls hP1 hS1 hl
theorem fV_iald (G : fC p s m args meth c cc own Ts A Γ N nL ret) {k K n : Nat} {i : Int} (hkN : k < N) (hk : fkd k = K) (he : ∀ r q, fen Γ K k r q = .inl (Γ.2.1 0, n, .inl (fun j => i32 (r (j : Int))))) (hn : (n : Int) ≤ 2147483647) (hi : 0 ≤ i ∧ i < (n : Int)) (hdg : decode cc pc = .ok (.iaload, 1)) (hpc : pc + 1 = pc') (kk : fV p l e R s m args below meth c Q A Γ N nL kc ks I P pc' lv (.int (i32 (I k i)) :: st)) : fV p l e R s m args below meth c Q A Γ N nL kc ks I P pc lv (.int (i32 i) :: .ref (Γ.1 k) :: st) := by
  subst hpc
  obtain ⟨hx, hb, -, hown, hts, hK, -⟩ := G
  intro H locs ls hP hS hl
  refine va_iald hx hb hK hP k 0 (fws_at hkN hk (he _ _)) rfl (i32_in hi hn) hdg ?_
  rw [i32_clamp (by omega)]
  exact kk H locs ls hP hS hl
theorem fupd_row (r : Int → Int) {i x : Int} (hi : 0 ≤ i ∧ i ≤ 2147483647) : upd (fun j => i32 (r (j : Int))) (i32 i).toNatClampNeg (i32 x) = fun j : Nat => i32 (rup r i x (j : Int)) := by
  funext j
  have e := i32_clamp hi
  unfold upd rup
  by_cases h : j = (i32 i).toNatClampNeg
  · have h2 : (j : Int) = i := by rw [h]; exact e
    rw [if_pos h, if_pos h2]
  · have h2 : ¬ (j : Int) = i := fun z => h (by omega)
    rw [if_neg h, if_neg h2]
theorem fV_iast (G : fC p s m args meth c cc own Ts A Γ N nL ret) {k K n : Nat} {i x : Int} (hkN : k < N) (hk : fkd k = K) (he : ∀ r q, fen Γ K k r q = .inl (Γ.2.1 0, n, .inl (fun j => i32 (r (j : Int))))) (hn : (n : Int) ≤ 2147483647) (hi : 0 ≤ i ∧ i < (n : Int)) (hdg : decode cc pc = .ok (.iastore, 1)) (hpc : pc + 1 = pc') (kk : ∀ I' : fM, I' = fup I k i x → fV p l e R s m args below meth c Q A Γ N nL kc ks I' P pc' lv st) : fV p l e R s m args below meth c Q A Γ N nL kc ks I P pc lv (.int (i32 x) :: .int (i32 i) :: .ref (Γ.1 k) :: st) := by
  subst hpc
  obtain ⟨hx, hb, -, hown, hts, hK, hinj, hA, -⟩ := G
  intro H locs ls hP hS hl
  refine va_iast hx hb hK hP (fD_of hinj hA) hS k 0 (fws_at hkN hk (he _ _)) rfl (i32_in hi hn) hdg (fun H1 locs1 hP1 _ hS1 => ?_)
  rw [fws_set (I' := fup I k i x) (P' := P) hk (fun a h => fup_ne h) (fun _ _ => rfl) (by rw [he, fup_row, fupd_row _ (by omega)])] at hP1
  exact kk _ rfl H1 locs1 ls hP1 hS1 hl
theorem fV_aald (G : fC p s m args meth c cc own Ts A Γ N nL ret) {k K t n : Nat} {C : String} {i : Int} (hkN : k < N) (hk : fkd k = K) (he : ∀ r q, fen Γ K k r q = .inl (Γ.2.1 t, n, .inr (.inr (.inr (.inr (fun j => some (Γ.1 (q (j : Int)))))))))  (ht : (fty Γ)[t]? = some (Γ.2.1 t, .object C)) (hn : (n : Int) ≤ 2147483647) (hi : 0 ≤ i ∧ i < (n : Int)) (hdg : decode cc pc = .ok (.aaload, 1)) (hpc : pc + 1 = pc') (kk : fV p l e R s m args below meth c Q A Γ N nL kc ks I P pc' lv (.ref (Γ.1 (P k i)) :: st)) : fV p l e R s m args below meth c Q A Γ N nL kc ks I P pc lv (.int (i32 i) :: .ref (Γ.1 k) :: st) := by
  subst hpc
  obtain ⟨hx, hb, -, hown, hts, hK, -⟩ := G
  intro H locs ls hP hS hl
  refine va_aldq hx hb hK hP k t (fws_at hkN hk (he _ _)) ht (i32_in hi hn) hdg ?_
  rw [i32_clamp (by omega)]
  exact kk H locs ls hP hS hl
theorem fV_aast (G : fC p s m args meth c cc own Ts A Γ N nL ret) {k k2 K K2 t n ci : Nat} {r9 : vw_C} {vs : List Value} {i : Int} (hkN : k < N) (hk : fkd k = K) (he : ∀ r q, fen Γ K k r q = .inl (Γ.2.1 t, n, .inr (.inr (.inr (.inr (fun j => some (Γ.1 (q (j : Int)))))))))  (hk2N : k2 < N) (hk2 : fkd k2 = K2) (he2 : fen Γ K2 k2 (I k2) (P k2) = .inr (ci, vs)) (hc : vwCl[ci]? = some r9) (ht : (fty Γ)[t]? = some (Γ.2.1 t, .object r9.1)) (hn : (n : Int) ≤ 2147483647) (hi : 0 ≤ i ∧ i < (n : Int)) (hdg : decode cc pc = .ok (.aastore, 1)) (hpc : pc + 1 = pc') (kk : ∀ P' : fN, P' = fuq P k i k2 → fV p l e R s m args below meth c Q A Γ N nL kc ks I P' pc' lv st) : fV p l e R s m args below meth c Q A Γ N nL kc ks I P pc lv (.ref (Γ.1 k2) :: .int (i32 i) :: .ref (Γ.1 k) :: st) := by
  subst hpc
  obtain ⟨hx, hb, -, hown, hts, hK, hinj, hA, -⟩ := G
  intro H locs ls hP hS hl
  refine va_astq hx hb hK hP (fD_of hinj hA) hS k t k2 ci (fws_at hkN hk (he _ _)) ht (fws_at hk2N hk2 he2) hc (i32_in hi hn) hdg (fun H1 locs1 hP1 _ hS1 => ?_)
  rw [fws_set (I' := I) (P' := fuq P k i k2) hk (fun _ _ => rfl) (fun a h => fuq_ne h) (by
    rw [he]
    congr 7
    funext j
    have e := i32_clamp (a := i) (by omega)
    unfold va_up fuq
    by_cases h : j = (i32 i).toNatClampNeg
    · have h2 : (j : Int) = i := by rw [h]; exact e
      simp [h, h2, e]
    · have h2 : ¬ (j : Int) = i := fun z => h (by omega)
      simp [h, h2])] at hP1
  exact kk _ rfl H1 locs1 ls hP1 hS1 hl
theorem fV_of_run {post : Option Value → fM → fN → Prop} {a : Array Value} (hAA : ∀ k, k < N → A (Γ.1 k)) (hr : ∀ (H : Heap) (locs : List Loc) (ls : Array Slot), va_P Γ.2.2.1 vwCl (fws Γ N I P) H → va_S A s.heap H locs → lv_has ls nL lv → va_Run p l e R s m args below meth c H locs kc ks 0 0 (F0 m pc ls st) rest (fQ Γ N post a) (fA Γ N)) (kk : ∀ (v : Option Value) (I' : fM) (P' : fN), post v I' P' → fV p l e R s m args below meth c Q A Γ N nL kc ks I' P' (pc + 3) lv (v.toList ++ rest)) : fV p l e R s m args below meth c Q A Γ N nL kc ks I P pc lv st := by
  intro H locs ls hP hS hl T hT X
  obtain ⟨v, st₀, t, T', L, h0, X', hL, e1, e2, ⟨⟨v', I', P', hv, hp, hPt⟩, hz, hk⟩, st⟩ := hr H locs ls hP hS hl T hT X
  cases hv
  rw [h0] at hz hk
  have hAq : ∀ q, fA Γ N q → A q := fun q h => by obtain ⟨k, h1, h2⟩ := h; rw [h2]; exact hAA k h1
  obtain ⟨t2, a1, b1⟩ := kk v I' P' hp T'.heap (locs ++ L) ls (by rw [e1]; exact hPt)
    ⟨Nat.le_trans hS.1 (by rw [e1]; exact hz), fun q h1 h2 => by rw [e1, hk q (Nat.lt_of_lt_of_le h1 hS.1) (fun z => h2 (hAq q z))]; exact hS.2.1 q h1 h2, fun q hq => by
      rcases List.mem_append.mp hq with h | h
      · exact hS.2.2 q h
      · exact hAq _ (hL q h)⟩ hl T' rfl X'
  exact ⟨t2, st t2 a1, b1⟩
theorem fW_pre (G : fC p s m args meth c cc own Ts A Γ N nL ret) {H : Heap} {locs : List Loc} {av : List Value} (hP : va_P Γ.2.2.1 vwCl (fws Γ N I P) H) (hS : va_S A s.heap H locs) (U : State) (hU : U.heap = H) (hW : s.WarmedH U.vm) : va_Pc av (fW Γ N I P) av.toArray U := by
  obtain ⟨hx, hb, hml, hown, hts, hK, hinj, hA, hst, -⟩ := G
  refine ⟨rfl, by rw [hU]; exact hP, va_K.moved hW.alike hK, hinj, ?_⟩
  rw [hU]
  exact ((hst.kept hS.2.1).warm hW).narrow (fun q h => by obtain ⟨k, h1, h2⟩ := h; rw [h2]; exact hA k h1)
theorem fV_callV (G : fC p s m args meth c cc own Ts A Γ N nL ret) {index ci n k K : Nat} {y : MethodName} {wsy : List Cond} {rmy : Room} {post : Option Value → fM → fN → Prop} {As : List Value} {fs : List Value} (hM : fMet l y wsy rmy Γ N (.ref (Γ.1 k) :: As) I P post) (hcv : fCv Ts own index ci y wsy R rmy n) (hkN : k < N) (hk : fkd k = K) (he : fen Γ K k (I k) (P k) = .inr (ci, fs)) (hn : As.length = n) (hst : st = As.reverse ++ .ref (Γ.1 k) :: rest) (hW : (rest.map fun v => v.category).sum ≤ 8) (hkc : kc ≤ R.cells) (hks : ks ≤ R.slots) (hdg : decode cc pc = .ok (.invokevirtual index, 3)) (hpc : pc + 3 = pc') (kk : ∀ (v : Option Value) (I' : fM) (P' : fN), post v I' P' → fV p l e R s m args below meth c Q A Γ N nL kc ks I' P' pc' lv (v.toList ++ rest)) : fV p l e R s m args below meth c Q A Γ N nL kc ks I P pc lv st := by
  subst hpc; subst hst
  obtain ⟨⟨C, T, NN⟩, bytes, maxL, ret', ws', hc, hg, hw, hrc, hrs, hd, hR⟩ := hcv
  have hx := G.1
  have hb := G.2.1
  have hml := G.2.2.1
  have hown := G.2.2.2.1
  have hts := G.2.2.2.2.1
  have hK := G.2.2.2.2.2.1
  refine fV_of_run (a := (Value.ref (Γ.1 k) :: As).toArray) G.2.2.2.2.2.2.2.1 (fun H locs ls hP hS hl => ?_) kk
  exact va_runV (As := As) (rest := rest) ⟨hx, hb, hml, hown, hts⟩ hM (cwV n hts hg hw hrc hrs hd hR) ⟨fW_blind, va_recv hK hP hc (fws_at hkN hk he), fun U hU hW => fW_pre G hP hS U hU hW⟩ rfl hn hl.1 rfl (lv_room hW) hdg ⟨by omega, by omega⟩
theorem fV_callS (G : fC p s m args meth c cc own Ts A Γ N nL ret) {index n : Nat} {y : MethodName} {wsy : List Cond} {rmy : Room} {post : Option Value → fM → fN → Prop} {As : List Value} (hM : fMet l y wsy rmy Γ N As I P post) (hcv : fCs Ts own index y wsy R rmy n) (hn : As.length = n) (hst : st = As.reverse ++ rest) (hW : (rest.map fun v => v.category).sum ≤ 8) (hkc : kc ≤ R.cells) (hks : ks ≤ R.slots) (hdg : decode cc pc = .ok (.invokestatic index, 3)) (hpc : pc + 3 = pc') (kk : ∀ (v : Option Value) (I' : fM) (P' : fN), post v I' P' → fV p l e R s m args below meth c Q A Γ N nL kc ks I' P' pc' lv (v.toList ++ rest)) : fV p l e R s m args below meth c Q A Γ N nL kc ks I P pc lv st := by
  subst hpc; subst hst
  obtain ⟨bytes, maxL, ret', ws', hg, hw, hrc, hrs, hd, hR⟩ := hcv
  have hx := G.1
  have hb := G.2.1
  have hml := G.2.2.1
  have hown := G.2.2.2.1
  have hts := G.2.2.2.2.1
  have hK := G.2.2.2.2.2.1
  refine fV_of_run (a := As.toArray) G.2.2.2.2.2.2.2.1 (fun H locs ls hP hS hl => ?_) kk
  exact va_runS (As := As) (rest := rest) ⟨hx, hb, hml, hown, hts⟩ hM (cwS n hts hg hw hrc hrs hd hR) ⟨fW_blind, fun U hU hW => fW_pre G hP hS U hU hW⟩ rfl hn hl.1 rfl (lv_room hW) hdg ⟨by omega, by omega⟩
theorem fV_callVf (G : fC p s m args meth c cc own Ts A Γ N nL ret) {index ci n k K : Nat} {y : MethodName} {wsy : List Cond} {rmy : Room} {v : Option Value} {I' : fM} {P' : fN} {st' As : List Value} {fs : List Value} (hM : fMet l y wsy rmy Γ N (.ref (Γ.1 k) :: As) I P (fE v I' P')) (hcv : fCv Ts own index ci y wsy R rmy n) (hkN : k < N) (hk : fkd k = K) (he : fen Γ K k (I k) (P k) = .inr (ci, fs)) (hn : As.length = n) (hst : st = As.reverse ++ .ref (Γ.1 k) :: rest) (hW : (rest.map fun v => v.category).sum ≤ 8) (hkc : kc ≤ R.cells) (hks : ks ≤ R.slots) (hdg : decode cc pc = .ok (.invokevirtual index, 3)) (hpc : pc + 3 = pc') (hst' : v.toList ++ rest = st') (kk : fV p l e R s m args below meth c Q A Γ N nL kc ks I' P' pc' lv st') : fV p l e R s m args below meth c Q A Γ N nL kc ks I P pc lv st :=
  fV_callV G hM hcv hkN hk he hn hst hW hkc hks hdg hpc (fun a b c h => by obtain ⟨h1, h2, h3⟩ := h; rw [h1, h2, h3, hst']; exact kk)
theorem fV_callSf (G : fC p s m args meth c cc own Ts A Γ N nL ret) {index n : Nat} {y : MethodName} {wsy : List Cond} {rmy : Room} {v : Option Value} {I' : fM} {P' : fN} {st' As : List Value} (hM : fMet l y wsy rmy Γ N As I P (fE v I' P')) (hcv : fCs Ts own index y wsy R rmy n) (hn : As.length = n) (hst : st = As.reverse ++ rest) (hW : (rest.map fun v => v.category).sum ≤ 8) (hkc : kc ≤ R.cells) (hks : ks ≤ R.slots) (hdg : decode cc pc = .ok (.invokestatic index, 3)) (hpc : pc + 3 = pc') (hst' : v.toList ++ rest = st') (kk : fV p l e R s m args below meth c Q A Γ N nL kc ks I' P' pc' lv st') : fV p l e R s m args below meth c Q A Γ N nL kc ks I P pc lv st :=
  fV_callS G hM hcv hn hst hW hkc hks hdg hpc (fun a b c h => by obtain ⟨h1, h2, h3⟩ := h; rw [h1, h2, h3, hst']; exact kk)
/-- a call's link (a private static method of a nest mate) -/
def fCn (Ts : List Cond) (own : String) (index : Nat) (y : MethodName) (wsy : List Cond) (R rm : Room) (n : Nat) : Prop :=
  ∃ (bytes : ByteArray) (maxL : Nat) (ret : Option FieldType) (ws' : List Cond), GoodIn Ts wsy ∧ wsy = Cond.code y bytes maxL ret :: ws' ∧ rm.cells = 0 ∧ rm.slots = 0 ∧
    (y.cls ≠ "java/lang/invoke/MethodHandle" ∧ y.cls ≠ "java/lang/invoke/VarHandle" ∧ (parseMethodDescriptor y.desc).map (fun d => d.parameters.length) = some n) ∧ (rm.frames + 1 ≤ R.frames ∧ 8 + (maxL + 11) + rm.locals ≤ R.locals) ∧ Cond.initialized y.cls ∈ Ts ∧ Cond.static y ∈ Ts
theorem fV_callN (G : fC p s m args meth c cc own Ts A Γ N nL ret) {index n : Nat} {y : MethodName} {wsy : List Cond} {rmy : Room} {post : Option Value → fM → fN → Prop} {As : List Value} (hnw : va_Nw (.methodLinkNest own index y "VoiceWords") s) (hM : fMet l y wsy rmy Γ N As I P post) (hcv : fCn Ts own index y wsy R rmy n) (hn : As.length = n) (hst : st = As.reverse ++ rest) (hW : (rest.map fun v => v.category).sum ≤ 8) (hkc : kc ≤ R.cells) (hks : ks ≤ R.slots) (hdg : decode cc pc = .ok (.invokestatic index, 3)) (hpc : pc + 3 = pc') (kk : ∀ (v : Option Value) (I' : fM) (P' : fN), post v I' P' → fV p l e R s m args below meth c Q A Γ N nL kc ks I' P' pc' lv (v.toList ++ rest)) : fV p l e R s m args below meth c Q A Γ N nL kc ks I P pc lv st := by
  subst hpc; subst hst
  obtain ⟨bytes, maxL, ret', ws', hg, hw, hrc, hrs, hd, hR, hini, hstt⟩ := hcv
  have hx := G.1
  have hb := G.2.1
  have hml := G.2.2.1
  have hown := G.2.2.2.1
  have hts := G.2.2.2.2.1
  refine fV_of_run (a := As.toArray) G.2.2.2.2.2.2.2.1 (fun H locs ls hP hS hl => ?_) kk
  exact va_runSN (As := As) (rest := rest) (host := "VoiceWords") ⟨hx, hb, hml, hown, hts⟩ hM ⟨va_cnB n hts hg hw hrc hrs hnw (hts _ hini) hd hR, hts _ hstt, trivial⟩ ⟨fW_blind, fun U hU hW => fW_pre G hP hS U hU hW⟩ rfl hn hl.1 rfl (lv_room hW) hdg ⟨by omega, by omega⟩
theorem fV_callNf (G : fC p s m args meth c cc own Ts A Γ N nL ret) {index n : Nat} {y : MethodName} {wsy : List Cond} {rmy : Room} {v : Option Value} {I' : fM} {P' : fN} {st' As : List Value} (hnw : va_Nw (.methodLinkNest own index y "VoiceWords") s) (hM : fMet l y wsy rmy Γ N As I P (fE v I' P')) (hcv : fCn Ts own index y wsy R rmy n) (hn : As.length = n) (hst : st = As.reverse ++ rest) (hW : (rest.map fun v => v.category).sum ≤ 8) (hkc : kc ≤ R.cells) (hks : ks ≤ R.slots) (hdg : decode cc pc = .ok (.invokestatic index, 3)) (hpc : pc + 3 = pc') (hst' : v.toList ++ rest = st') (kk : fV p l e R s m args below meth c Q A Γ N nL kc ks I' P' pc' lv st') : fV p l e R s m args below meth c Q A Γ N nL kc ks I P pc lv st :=
  fV_callN G hnw hM hcv hn hst hW hkc hks hdg hpc (fun a b c h => by obtain ⟨h1, h2, h3⟩ := h; rw [h1, h2, h3, hst']; exact kk)
theorem fV_mmax (G : fC p s m args meth c cc own Ts A Γ N nL ret) {index : Nat} {a b : Int} (hcm : Cond.methodLink own index Lib.Math.max.name ∈ Ts ∧ Cond.static Lib.Math.max.name ∈ Ts ∧ Cond.initialized "java/lang/Math" ∈ Ts ∧ Cond.code Lib.Math.max.name Lib.Math.max.code 2 (some .int) ∈ Ts) (hR : 1 ≤ R.frames ∧ (st.map fun v => v.category).sum + 13 ≤ R.locals) (hkc : kc ≤ R.cells) (hks : ks ≤ R.slots) (ha : -2147483648 ≤ a ∧ a ≤ 2147483647) (hb : -2147483648 ≤ b ∧ b ≤ 2147483647) (hdg : decode cc pc = .ok (.invokestatic index, 3)) (hpc : pc + 3 = pc') (kk : fV p l e R s m args below meth c Q A Γ N nL kc ks I P pc' lv (.int (i32 (max a b)) :: st)) : fV p l e R s m args below meth c Q A Γ N nL kc ks I P pc lv (.int (i32 b) :: .int (i32 a) :: st) := by
  subst hpc
  intro H locs ls hP hS hl
  refine va_mmax G.1 G.2.1 (by rw [G.2.2.1]; exact hl.1.symm) G.2.2.2.1 (G.2.2.2.2.1 _ hcm.1) (G.2.2.2.2.1 _ hcm.2.1) (G.2.2.2.2.1 _ hcm.2.2.1) (G.2.2.2.2.1 _ hcm.2.2.2) hR.1 hR.2 hkc hks hdg ?_
  have he : (if i32 a < i32 b then i32 b else i32 a) = i32 (max a b) := by
    by_cases h : a < b
    · rw [if_pos ((i32_lt (by assumption) (by assumption)).mpr h)]; congr 1; omega
    · rw [if_neg (fun z => h ((i32_lt (by assumption) (by assumption)).mp z))]; congr 1; omega
  rw [he]
  exact kk H locs ls hP hS hl
theorem fV_mmin (G : fC p s m args meth c cc own Ts A Γ N nL ret) {index : Nat} {a b : Int} (hcm : Cond.methodLink own index Lib.Math.min.name ∈ Ts ∧ Cond.static Lib.Math.min.name ∈ Ts ∧ Cond.initialized "java/lang/Math" ∈ Ts ∧ Cond.code Lib.Math.min.name Lib.Math.min.code 2 (some .int) ∈ Ts) (hR : 1 ≤ R.frames ∧ (st.map fun v => v.category).sum + 13 ≤ R.locals) (hkc : kc ≤ R.cells) (hks : ks ≤ R.slots) (ha : -2147483648 ≤ a ∧ a ≤ 2147483647) (hb : -2147483648 ≤ b ∧ b ≤ 2147483647) (hdg : decode cc pc = .ok (.invokestatic index, 3)) (hpc : pc + 3 = pc') (kk : fV p l e R s m args below meth c Q A Γ N nL kc ks I P pc' lv (.int (i32 (min a b)) :: st)) : fV p l e R s m args below meth c Q A Γ N nL kc ks I P pc lv (.int (i32 b) :: .int (i32 a) :: st) := by
  subst hpc
  intro H locs ls hP hS hl
  refine va_mmin G.1 G.2.1 (by rw [G.2.2.1]; exact hl.1.symm) G.2.2.2.1 (G.2.2.2.2.1 _ hcm.1) (G.2.2.2.2.1 _ hcm.2.1) (G.2.2.2.2.1 _ hcm.2.2.1) (G.2.2.2.2.1 _ hcm.2.2.2) hR.1 hR.2 hkc hks hdg ?_
  have he : (if i32 b < i32 a then i32 b else i32 a) = i32 (min a b) := by
    by_cases h : b < a
    · rw [if_pos ((i32_lt (by assumption) (by assumption)).mpr h)]; congr 1; omega
    · rw [if_neg (fun z => h ((i32_lt (by assumption) (by assumption)).mp z))]; congr 1; omega
  rw [he]
  exact kk H locs ls hP hS hl
theorem fB_nar (b : Bool) : narrow .boolean (.int (i32 (fB b))) = .int (i32 (fB b)) := by cases b <;> rfl
theorem fB_fit (b : Bool) : fits .boolean (.int (i32 (fB b))) = true := by cases b <;> rfl
theorem fZ_nar {x : Int} (h : x = 0 ∨ x = 1) : narrow .boolean (.int (i32 x)) = .int (i32 x) := by rcases h with rfl | rfl <;> rfl
theorem fZ_fit {x : Int} (h : x = 0 ∨ x = 1) : fits .boolean (.int (i32 x)) = true := by rcases h with rfl | rfl <;> rfl
theorem fE_i {I : fM} {P : fN} {a b : Int} (h : a = b) : fE (some (.int (i32 b))) I P (some (.int (i32 a))) I P := ⟨by rw [h], rfl, rfl⟩
theorem fE_b {I : fM} {P : fN} {a b : Bool} (h : a = b) : fE (some (.int (i32 (fB b)))) I P (some (.int (i32 (fB a)))) I P := ⟨by rw [h], rfl, rfl⟩
theorem fE_im {I I' : fM} {P P' : fN} {a b : Int} (h : a = b) (hI : I = I') (hP : P = P') : fE (some (.int (i32 b))) I' P' (some (.int (i32 a))) I P := ⟨by rw [h], hI, hP⟩
theorem fE_bm {I I' : fM} {P P' : fN} {a b : Bool} (h : a = b) (hI : I = I') (hP : P = P') : fE (some (.int (i32 (fB b)))) I' P' (some (.int (i32 (fB a)))) I P := ⟨by rw [h], hI, hP⟩
theorem fE_vm {I I' : fM} {P P' : fN} (hI : I = I') (hP : P = P') : fE none I' P' none I P := ⟨rfl, hI, hP⟩
/-- what System.arraycopy leaves -/
def fcpy (I : fM) (k1 : Nat) (sp : Int) (k2 : Nat) (dp n : Int) : fM := fun a b => if a = k2 ∧ dp ≤ b ∧ b < dp + n then I k1 (sp + (b - dp)) else I a b
theorem fV_copy (G : fC p s m args meth c cc own Ts A Γ N nL ret) {index k1 k2 K1 K2 n1 n2 : Nat} {sp dp n : Int} (hcm : Cond.methodLink own index arraycopyName ∈ Ts ∧ Cond.native arraycopyName ∈ Ts ∧ Cond.static arraycopyName ∈ Ts ∧ Cond.initialized "java/lang/System" ∈ Ts) (hR : 1 ≤ R.frames ∧ (st.map fun v => v.category).sum + (nativeFrameWords "java/lang/System" "arraycopy" 5 + 11) ≤ R.locals) (h1N : k1 < N) (h1 : fkd k1 = K1) (he1 : ∀ r q, fen Γ K1 k1 r q = .inl (Γ.2.1 0, n1, .inl (fun j => i32 (r (j : Int))))) (h2N : k2 < N) (h2 : fkd k2 = K2) (he2 : ∀ r q, fen Γ K2 k2 r q = .inl (Γ.2.1 0, n2, .inl (fun j => i32 (r (j : Int))))) (hn1 : (n1 : Int) ≤ 2147483647) (hn2 : (n2 : Int) ≤ 2147483647) (hb : 0 ≤ sp ∧ 0 ≤ dp ∧ 0 ≤ n ∧ sp + n ≤ (n1 : Int) ∧ dp + n ≤ (n2 : Int)) (hdg : decode cc pc = .ok (.invokestatic index, 3)) (hpc : pc + 3 = pc') (kk : ∀ I' : fM, I' = fcpy I k1 sp k2 dp n → fV p l e R s m args below meth c Q A Γ N nL kc ks I' P pc' lv st) : fV p l e R s m args below meth c Q A Γ N nL kc ks I P pc lv (.int (i32 n) :: .int (i32 dp) :: .ref (Γ.1 k2) :: .int (i32 sp) :: .ref (Γ.1 k1) :: st) := by
  subst hpc
  obtain ⟨hx, hb9, hml, hown, hts, hK, hinj, hA, -⟩ := G
  have c1 := i32_clamp (a := sp) (by omega)
  have c2 := i32_clamp (a := dp) (by omega)
  have c3 := i32_clamp (a := n) (by omega)
  have neg : ∀ x : Int, 0 ≤ x → x ≤ 2147483647 → ¬ i32 x < 0 := fun x h0 h9 z => by
    have := (i32_lt (a := x) (b := 0) (by omega) (by omega)).mp z
    omega
  intro H locs ls hP hS hl
  refine va_copyi hx hb9 (by rw [hml]; exact hl.1.symm) hown (hts _ hcm.1) (hts _ hcm.2.1) (hts _ hcm.2.2.1) (hts _ hcm.2.2.2) hK hP (fD_of hinj hA) hS k1 k2 0 0 (fws_at h1N h1 (he1 _ _)) (fws_at h2N h2 (he2 _ _)) rfl rfl rfl (neg sp (by omega) (by omega)) (neg dp (by omega) (by omega)) (neg n (by omega) (by omega)) (by omega) (by omega) (fun _ _ => rfl) hR.1 hR.2 hdg (fun H1 locs1 hP1 _ hS1 => ?_)
  rw [fws_set (I' := fcpy I k1 sp k2 dp n) (P' := P) h2 (fun a h => by funext b; simp [fcpy, h]) (fun _ _ => rfl) (by
    rw [he2]
    congr 4
    funext j
    unfold va_cpy fcpy
    by_cases h : (i32 dp).toNatClampNeg ≤ j ∧ j < (i32 dp).toNatClampNeg + (i32 n).toNatClampNeg
    · rw [if_pos h, if_pos (by omega)]
      congr 2
      omega
    · rw [if_neg h, if_neg (by omega)])] at hP1
  exact kk _ rfl H1 locs1 ls hP1 hS1 hl
theorem fV_i2f (G : fC p s m args meth c cc own Ts A Γ N nL ret) {a : Int} (hdg : decode cc pc = .ok (.i2f, 1)) (hpc : pc + 1 = pc') (k : fV p l e R s m args below meth c Q A Γ N nL kc ks I P pc' lv (.float (FP.i2f (i32 a)) :: st)) : fV p l e R s m args below meth c Q A Γ N nL kc ks I P pc lv (.int (i32 a) :: st) := by
  subst hpc
  exact fun H locs ls hP hS hl => lv_i2f G.1 G.2.1 hdg (k H locs ls hP hS hl)
theorem fV_f2i (G : fC p s m args meth c cc own Ts A Γ N nL ret) {x : UInt32} {a : Int} (hdg : decode cc pc = .ok (.f2i, 1)) (ha : FP.f2i x = i32 a) (hpc : pc + 1 = pc') (k : fV p l e R s m args below meth c Q A Γ N nL kc ks I P pc' lv (.int (i32 a) :: st)) : fV p l e R s m args below meth c Q A Γ N nL kc ks I P pc lv (.float x :: st) := by
  subst hpc
  exact fun H locs ls hP hS hl => lv_f2i G.1 G.2.1 hdg (by rw [ha]; exact k H locs ls hP hS hl)
theorem fV_fadd (G : fC p s m args meth c cc own Ts A Γ N nL ret) {x y : UInt32} (hdg : decode cc pc = .ok (.fadd, 1)) (hne : vf_n32 (FP.fadd x y)) (hpc : pc + 1 = pc') (k : fV p l e R s m args below meth c Q A Γ N nL kc ks I P pc' lv (.float (FP.fadd x y) :: st)) : fV p l e R s m args below meth c Q A Γ N nL kc ks I P pc lv (.float y :: .float x :: st) := by
  subst hpc
  exact fun H locs ls hP hS hl => lv_fadd G.1 G.2.1 hdg hne (k H locs ls hP hS hl)
theorem fV_fmul (G : fC p s m args meth c cc own Ts A Γ N nL ret) {x y : UInt32} (hdg : decode cc pc = .ok (.fmul, 1)) (hne : vf_n32 (FP.fmul x y)) (hpc : pc + 1 = pc') (k : fV p l e R s m args below meth c Q A Γ N nL kc ks I P pc' lv (.float (FP.fmul x y) :: st)) : fV p l e R s m args below meth c Q A Γ N nL kc ks I P pc lv (.float y :: .float x :: st) := by
  subst hpc
  exact fun H locs ls hP hS hl => lv_fmul G.1 G.2.1 hdg hne (k H locs ls hP hS hl)
theorem fV_fdiv (G : fC p s m args meth c cc own Ts A Γ N nL ret) {x y : UInt32} (hdg : decode cc pc = .ok (.fdiv, 1)) (hne : vf_n32 (FP.fdiv x y)) (hpc : pc + 1 = pc') (k : fV p l e R s m args below meth c Q A Γ N nL kc ks I P pc' lv (.float (FP.fdiv x y) :: st)) : fV p l e R s m args below meth c Q A Γ N nL kc ks I P pc lv (.float y :: .float x :: st) := by
  subst hpc
  exact fun H locs ls hP hS hl => lv_fdiv G.1 G.2.1 hdg hne (k H locs ls hP hS hl)
theorem fV_fconst0 (G : fC p s m args meth c cc own Ts A Γ N nL ret) (hdg : decode cc pc = .ok (.fconst 0, 1)) (hpc : pc + 1 = pc') (k : fV p l e R s m args below meth c Q A Γ N nL kc ks I P pc' lv (.float FP.fconst0 :: st)) : fV p l e R s m args below meth c Q A Γ N nL kc ks I P pc lv st := by
  subst hpc
  exact fun H locs ls hP hS hl => lv_fconst0 G.1 G.2.1 hdg (k H locs ls hP hS hl)
theorem fV_ldcf (G : fC p s m args meth c cc own Ts A Γ N nL ret) {index : Nat} {v : UInt32} (hm : Cond.constantFloat own index v ∈ Ts) (hdg : decode cc pc = .ok (.ldc index, 2)) (hpc : pc + 2 = pc') (k : fV p l e R s m args below meth c Q A Γ N nL kc ks I P pc' lv (.float v :: st)) : fV p l e R s m args below meth c Q A Γ N nL kc ks I P pc lv st := by
  subst hpc
  exact fun H locs ls hP hS hl => lv_ldcf G.1 G.2.1 G.2.2.2.1 (G.2.2.2.2.1 _ hm) hdg (k H locs ls hP hS hl)
theorem fV_iret (G : fC p s m args meth c cc own Ts (fA Γ N) Γ N nL (some .int)) {v : Int32} {post : Option Value → fM → fN → Prop} (hdg : decode cc pc = .ok (.ireturn, 1)) (h : post (some (.int v)) I P) : fV p l e R s m args below meth c (MQ below (fQ Γ N post) args s 0 0 (fA Γ N)) (fA Γ N) Γ N nL 0 0 I P pc lv [.int v] := by
  intro H locs ls hP hS hl
  obtain ⟨hx, hb, -, -, -, -, -, -, -, hr, hlk⟩ := G
  exact W.iret hx hb hr (fun t ht hW => ⟨⟨_, I, P, rfl, h, by rw [ht]; exact hP⟩, hS.F ht⟩) hS.2.2 hdg hlk
theorem fV_zret (G : fC p s m args meth c cc own Ts (fA Γ N) Γ N nL (some .boolean)) {b : Bool} {post : Option Value → fM → fN → Prop} (hdg : decode cc pc = .ok (.ireturn, 1)) (h : post (some (.int (i32 (fB b)))) I P) : fV p l e R s m args below meth c (MQ below (fQ Γ N post) args s 0 0 (fA Γ N)) (fA Γ N) Γ N nL 0 0 I P pc lv [.int (i32 (fB b))] := by
  intro H locs ls hP hS hl
  obtain ⟨hx, hb, -, -, -, -, -, -, -, hr, hlk⟩ := G
  exact W.zret hx hb hr (by cases b <;> rfl) (fun t ht hW => ⟨⟨_, I, P, rfl, h, by rw [ht]; exact hP⟩, hS.F ht⟩) hS.2.2 hdg hlk
theorem fV_vret (G : fC p s m args meth c cc own Ts (fA Γ N) Γ N nL none) {post : Option Value → fM → fN → Prop} (hdg : decode cc pc = .ok (.return_, 1)) (h : post none I P) : fV p l e R s m args below meth c (MQ below (fQ Γ N post) args s 0 0 (fA Γ N)) (fA Γ N) Γ N nL 0 0 I P pc lv [] := by
  intro H locs ls hP hS hl
  obtain ⟨hx, hb, -, -, -, -, -, -, -, hr, hlk⟩ := G
  exact W.vret hx hb hr (fun t ht hW => ⟨⟨_, I, P, rfl, h, by rw [ht]; exact hP⟩, hS.F ht⟩) hS.2.2 hdg hlk
theorem fV_aret (G : fC p s m args meth c cc own Ts (fA Γ N) Γ N nL ret) {C : String} (hC : ret = some (.object C)) {a : Nat} {post : Option Value → fM → fN → Prop} (hdg : decode cc pc = .ok (.areturn, 1)) (h : post (some (.ref a)) I P) : fV p l e R s m args below meth c (MQ below (fQ Γ N post) args s 0 0 (fA Γ N)) (fA Γ N) Γ N nL 0 0 I P pc lv [.ref a] := by
  intro H locs ls hP hS hl
  obtain ⟨hx, hb, -, -, -, -, -, -, -, hr, hlk⟩ := G
  exact W.aret (v := .ref a) hx hb (by rw [hr]; exact hC) (Or.inl ⟨_, rfl⟩) (Or.inr ⟨_, rfl⟩) (fun t ht hW => ⟨⟨_, I, P, rfl, h, by rw [ht]; exact hP⟩, hS.F ht⟩) hS.2.2 hdg hlk
theorem fV_lret (G : fC p s m args meth c cc own Ts (fA Γ N) Γ N nL (some .long)) {v : Int64} {post : Option Value → fM → fN → Prop} (hdg : decode cc pc = .ok (.lreturn, 1)) (h : post (some (.long v)) I P) : fV p l e R s m args below meth c (MQ below (fQ Γ N post) args s 0 0 (fA Γ N)) (fA Γ N) Γ N nL 0 0 I P pc lv [.long v] := by
  intro H locs ls hP hS hl
  obtain ⟨hx, hb, -, -, -, -, -, -, -, hr, hlk⟩ := G
  exact W.lret hx hb hr (fun t ht hW => ⟨⟨_, I, P, rfl, h, by rw [ht]; exact hP⟩, hS.F ht⟩) hS.2.2 hdg hlk
end FV
