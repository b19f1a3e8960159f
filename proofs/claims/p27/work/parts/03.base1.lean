/-! BASE 1: machine ints as integers; the flat memory of the class and of the reference -/
def i32 (n : Int) : Int32 := Int32.ofInt n
def i64 (n : Int) : Int64 := Int64.ofInt n
theorem i32_self (x : Int32) : i32 x.toInt = x := by
  first
    | exact Int32.ofInt_toInt x
    | (apply Int32.toInt_inj.mp; unfold i32; rw [Int32.toInt_ofInt_of_le x.le_toInt x.toInt_lt])
theorem i32_toInt {n : Int} (h : -2147483648 ≤ n ∧ n ≤ 2147483647) : (i32 n).toInt = n := by
  unfold i32
  first
    | exact Int32.toInt_ofInt_of_le (by omega) (by omega)
    | (rw [Int32.toInt_ofInt]; exact Jvm.Kit.bmod32 (by omega) (by omega))
theorem i64_toInt {n : Int} (h : -9223372036854775808 ≤ n ∧ n ≤ 9223372036854775807) : (i64 n).toInt = n := by
  unfold i64
  first
    | exact Int64.toInt_ofInt_of_le (by omega) (by omega)
    | (rw [Int64.toInt_ofInt]; exact Jvm.Kit.bmod64 (by omega) (by omega))
theorem i32_add (a b : Int) : i32 a + i32 b = i32 (a + b) := by
  unfold i32
  first | exact (Int32.ofInt_add a b).symm | exact (Int32.ofInt_add).symm
theorem i32_sub (a b : Int) : i32 a - i32 b = i32 (a - b) := by
  unfold i32
  first | exact (Int32.ofInt_sub a b).symm | exact (Int32.ofInt_sub).symm
theorem i32_mul (a b : Int) : i32 a * i32 b = i32 (a * b) := by
  unfold i32
  first | exact (Int32.ofInt_mul a b).symm | exact (Int32.ofInt_mul).symm
theorem i32_neg (a : Int) : - i32 a = i32 (-a) := by
  unfold i32
  first | exact (Int32.ofInt_neg a).symm | exact (Int32.ofInt_neg).symm
theorem i64_add (a b : Int) : i64 a + i64 b = i64 (a + b) := by
  unfold i64
  first | exact (Int64.ofInt_add a b).symm | exact (Int64.ofInt_add).symm
theorem i64_sub (a b : Int) : i64 a - i64 b = i64 (a - b) := by
  unfold i64
  first | exact (Int64.ofInt_sub a b).symm | exact (Int64.ofInt_sub).symm
theorem i64_mul (a b : Int) : i64 a * i64 b = i64 (a * b) := by
  unfold i64
  first | exact (Int64.ofInt_mul a b).symm | exact (Int64.ofInt_mul).symm
theorem i32_l {a : Int} (h : -2147483648 ≤ a ∧ a ≤ 2147483647) : (i32 a).toInt64 = i64 a := by
  apply Int64.toInt_inj.mp
  rw [Int32.toInt_toInt64, i32_toInt h, i64_toInt (by omega)]
theorem i64_i {a : Int} (h : -2147483648 ≤ a ∧ a ≤ 2147483647) : (i64 a).toInt32 = i32 a := by
  apply Int32.toInt_inj.mp
  rw [Int64.toInt_toInt32, i32_toInt h, i64_toInt (by omega)]
  exact Jvm.Kit.bmod32 (by omega) (by omega)
theorem i32_lt {a b : Int} (ha : -2147483648 ≤ a ∧ a ≤ 2147483647) (hb : -2147483648 ≤ b ∧ b ≤ 2147483647) : i32 a < i32 b ↔ a < b := by
  rw [Int32.lt_iff_toInt_lt, i32_toInt ha, i32_toInt hb]
theorem i32_le {a b : Int} (ha : -2147483648 ≤ a ∧ a ≤ 2147483647) (hb : -2147483648 ≤ b ∧ b ≤ 2147483647) : i32 a ≤ i32 b ↔ a ≤ b := by
  rw [Int32.le_iff_toInt_le, i32_toInt ha, i32_toInt hb]
theorem i32_eq {a b : Int} (ha : -2147483648 ≤ a ∧ a ≤ 2147483647) (hb : -2147483648 ≤ b ∧ b ≤ 2147483647) : i32 a = i32 b ↔ a = b := by
  rw [← Int32.toInt_inj, i32_toInt ha, i32_toInt hb]
theorem i64_lt {a b : Int} (ha : -9223372036854775808 ≤ a ∧ a ≤ 9223372036854775807) (hb : -9223372036854775808 ≤ b ∧ b ≤ 9223372036854775807) : i64 a < i64 b ↔ a < b := by
  rw [Int64.lt_iff_toInt_lt, i64_toInt ha, i64_toInt hb]
theorem i64_eq {a b : Int} (ha : -9223372036854775808 ≤ a ∧ a ≤ 9223372036854775807) (hb : -9223372036854775808 ≤ b ∧ b ≤ 9223372036854775807) : i64 a = i64 b ↔ a = b := by
  rw [← Int64.toInt_inj, i64_toInt ha, i64_toInt hb]
theorem i32_clamp {a : Int} (h : 0 ≤ a ∧ a ≤ 2147483647) : (((i32 a).toNatClampNeg : Nat) : Int) = a := by
  have e : (i32 a).toNatClampNeg = (i32 a).toInt.toNat := rfl
  rw [e, i32_toInt (by omega)]
  omega
theorem i32_in {a : Int} {n : Nat} (h : 0 ≤ a ∧ a < (n : Int)) (hn : (n : Int) ≤ 2147483647) : vp_in (i32 a) n := by
  rw [vp_in_iff, i32_toInt (by omega)]
  exact h
/-- a truth value as the machine has it -/
def fB (c : Bool) : Int := if c then 1 else 0
theorem fB_t : fB true = 1 := rfl
theorem fB_f : fB false = 0 := rfl
theorem fB_r (c : Bool) : -2147483648 ≤ fB c ∧ fB c ≤ 2147483647 := by cases c <;> decide
/-! the memory: what stands at place j of object k: ints in I, references (by their object's number) in P -/
abbrev fM : Type := Nat → Int → Int
abbrev fN : Type := Nat → Int → Nat
def fup (I : fM) (k : Nat) (j x : Int) : fM := fun a b => if a = k ∧ b = j then x else I a b
def fuq (P : fN) (k : Nat) (j : Int) (x : Nat) : fN := fun a b => if a = k ∧ b = j then x else P a b
theorem fup_s (I : fM) (k : Nat) (j x : Int) : fup I k j x k j = x := by simp [fup]
theorem fup_k {I : fM} {k a : Nat} {j b x : Int} (h : a ≠ k) : fup I k j x a b = I a b := by simp [fup, h]
theorem fup_j {I : fM} {k a : Nat} {j b x : Int} (h : b ≠ j) : fup I k j x a b = I a b := by simp [fup, h]
theorem fuq_s (P : fN) (k : Nat) (j : Int) (x : Nat) : fuq P k j x k j = x := by simp [fuq]
theorem fuq_k {P : fN} {k a : Nat} {j b : Int} {x : Nat} (h : a ≠ k) : fuq P k j x a b = P a b := by simp [fuq, h]
theorem fuq_j {P : fN} {k a : Nat} {j b : Int} {x : Nat} (h : b ≠ j) : fuq P k j x a b = P a b := by simp [fuq, h]
/-- the kinds of the objects by their numbers. 0 Scene, 1 Text, 2 Word, 3 VoiceWords, 4 VoiceWordsModel, 5 int[12], 6 int[10], 7 int[160], 8 int[241], 9 int[1205], 10 boolean[12], 11 Word[12], 12 Scene[5] -/
def fso (o : Nat) : Nat := match o with
  | 0 => 0
  | 1 => 11
  | 2 => 6
  | 3 => 2
  | 4 => 5
  | 5 => 5
  | n => if n % 2 = 0 then 2 else 5
def fkd (k : Nat) : Nat := if k = 0 then 3 else if k < 61 then fso ((k - 1) % 30) else if k = 61 then 12 else if k < 212 then fso ((k - 62) % 30) else if k = 212 then 1 else if k = 213 then 7 else if k = 214 then 4 else if k < 217 then 8 else if k = 217 then 9 else if k = 218 then 7 else 10
/-- what a cell holds, by its kind. Γ: addresses, the array classes (0 int[], 1 Word[], 2 Scene[], 3 boolean[]), the classes' numbers, the addresses of constants -/
abbrev fG : Type := (Nat → Nat) × (Nat → ClassId) × va_G × (Nat → Nat)
def fen (Γ : fG) (K k : Nat) (r : Int → Int) (q : Int → Nat) : va_E := match K with
  | 0 => .inr (0, [.ref (Γ.1 (k + 1)), .int (i32 (r 1)), .ref (Γ.1 (k + 2)), .int (i32 (r 3)), .int (i32 (r 4)), .ref (Γ.1 (k + 3)), .ref (Γ.1 (k + 5))])
  | 1 => .inr (1, [.ref (Γ.1 (k + 1)), .int (i32 (r 1)), .int (i32 (r 2)), .int (i32 (r 3)), .int (i32 (r 4))])
  | 2 => .inr (2, [.ref (Γ.1 (k + 1)), .int (i32 (r 1)), .int (i32 (r 2)), .int (i32 (r 3)), .int (i32 (r 4)), .int (i32 (r 5)), .int (i32 (r 6)), .int (i32 (r 7)), .int (i32 (r 8))])
  | 3 => .inr (3, [.ref (Γ.1 1), .ref (Γ.1 31), .ref (Γ.1 61), .int (i32 (r 3)), .ref (Γ.1 212)])
  | 4 => .inr (4, [.int (i32 (r 0)), .ref (Γ.1 (k + 1)), .ref (Γ.1 (k + 2)), .ref (Γ.1 (k + 3)), .int (i32 (r 4)), .ref (Γ.1 (k + 4)), .int (i32 (r 6)), .int (i32 (r 7)), .int (i32 (r 8)), .int (i32 (r 9)), .long (i64 (r 10)), .int (i32 (r 11)), .ref (Γ.1 (k + 5))])
  | 5 => .inl (Γ.2.1 0, 12, .inl (fun j => i32 (r (j : Int))))
  | 6 => .inl (Γ.2.1 0, 10, .inl (fun j => i32 (r (j : Int))))
  | 7 => .inl (Γ.2.1 0, 160, .inl (fun j => i32 (r (j : Int))))
  | 8 => .inl (Γ.2.1 0, 241, .inl (fun j => i32 (r (j : Int))))
  | 9 => .inl (Γ.2.1 0, 1205, .inl (fun j => i32 (r (j : Int))))
  | 10 => .inl (Γ.2.1 3, 12, .inl (fun j => i32 (r (j : Int))))
  | 11 => .inl (Γ.2.1 1, 12, .inr (.inr (.inr (.inr (fun j => some (Γ.1 (q (j : Int))))))))
  | _ => .inl (Γ.2.1 2, 5, .inr (.inr (.inr (.inr (fun j => some (Γ.1 (q (j : Int))))))))
def flay (Γ : fG) (I : fM) (P : fN) (k : Nat) : va_E := fen Γ (fkd k) k (I k) (P k)
def fws (Γ : fG) (N : Nat) (I : fM) (P : fN) : va_W := (List.range N).map (fun k => (Γ.1 k, flay Γ I P k))
theorem fws_get {Γ : fG} {N : Nat} {I : fM} {P : fN} {k : Nat} (h : k < N) : (fws Γ N I P)[k]? = some (Γ.1 k, flay Γ I P k) := by
  unfold fws
  rw [List.getElem?_map, List.getElem?_range h]
  rfl
theorem fws_at {Γ : fG} {N : Nat} {I : fM} {P : fN} {k K : Nat} {e : va_E} (h : k < N) (hk : fkd k = K) (he : fen Γ K k (I k) (P k) = e) : (fws Γ N I P)[k]? = some (Γ.1 k, e) := by
  rw [fws_get h, flay, hk, he]
theorem fws_set {Γ : fG} {N : Nat} {I I' : fM} {P P' : fN} {k K : Nat} {e : va_E} (hk : fkd k = K) (hI : ∀ a, a ≠ k → I' a = I a) (hP : ∀ a, a ≠ k → P' a = P a) (he : fen Γ K k (I' k) (P' k) = e) : (fws Γ N I P).set k (Γ.1 k, e) = fws Γ N I' P' := by
  apply List.ext_getElem?
  intro i
  by_cases hi : i = k
  · subst hi
    by_cases hl : i < N
    · rw [List.getElem?_set_self (by simp [fws]; exact hl), fws_at hl hk he]
    · rw [List.getElem?_eq_none (by simp [fws]; omega), List.getElem?_eq_none (by simp [fws]; omega)]
  · rw [List.getElem?_set_ne (Ne.symm hi)]
    by_cases hl : i < N
    · rw [fws_get hl, fws_get hl, flay, flay, hI i hi, hP i hi]
    · rw [List.getElem?_eq_none (by simp [fws]; omega), List.getElem?_eq_none (by simp [fws]; omega)]
theorem fws_mem {Γ : fG} {N : Nat} {I : fM} {P : fN} {i : Nat} {q : Nat × va_E} (h : (fws Γ N I P)[i]? = some q) : i < N ∧ q.1 = Γ.1 i := by
  have hl : i < N := by
    have := (List.getElem?_eq_some_iff.mp h).1
    simpa [fws] using this
  rw [fws_get hl] at h
  cases h
  exact ⟨hl, rfl⟩
/-- the addresses are apart -/
def finj (Γ : fG) (N : Nat) : Prop := ∀ i j : Nat, i < N → j < N → Γ.1 i = Γ.1 j → i = j
def fA (Γ : fG) (N : Nat) : Nat → Prop := fun q => ∃ k, k < N ∧ q = Γ.1 k
theorem fD_of {Γ : fG} {N : Nat} {I : fM} {P : fN} {A : Nat → Prop} (h : finj Γ N) (hA : ∀ k, k < N → A (Γ.1 k)) : va_D A (fws Γ N I P) := by
  refine ⟨fun i j p q hi hj e => ?_, fun k q hk => ?_⟩
  · obtain ⟨h1, e1⟩ := fws_mem hi
    obtain ⟨h2, e2⟩ := fws_mem hj
    exact h i j h1 h2 (by rw [← e1, ← e2]; exact e)
  · obtain ⟨h1, e1⟩ := fws_mem hk
    rw [e1]
    exact hA k h1
/-- the lanes in the order in which they are tried -/
def flane (j : Nat) : Int := match j with
  | 0 => 3
  | 1 => 4
  | 2 => 2
  | 3 => 5
  | 4 => 1
  | 5 => 6
  | 6 => 0
  | _ => 7
/-- the text constants: say, cut, left, right, up, down -/
def fLen : List Nat := [3, 3, 4, 5, 2, 4]
def fByt : List (List Int32) := [[115, 97, 121], [99, 117, 116], [108, 101, 102, 116], [114, 105, 103, 104, 116], [117, 112], [100, 111, 119, 110]]
def fTx (i : Nat) : String := match i with
  | 0 => "say"
  | 1 => "cut"
  | 2 => "left"
  | 3 => "right"
  | 4 => "up"
  | _ => "down"
