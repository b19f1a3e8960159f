/-! RIGHT: rows of its own; what a state shows of itself -/
theorem i32_r (x : Int32) : -2147483648 ≤ x.toInt ∧ x.toInt ≤ 2147483647 := by
  have h1 := x.le_toInt
  have h2 := x.toInt_lt
  omega
theorem i32_nat {n : Nat} (h : n ≤ 100000) : Int32.ofNat n = i32 (n : Int) := by
  apply Int32.toInt_inj.mp
  rw [i32_toInt (by omega)]
  exact Int32.toInt_ofNat_of_lt (by omega)
theorem fV_sld {p : Program} {l : Launch} {e : Env} {R : Room} {s : State} {m : MethodId} {args : Array Value} {below : List Frame} {meth : Method} {c : Code} {Q : State → Prop} {A : Nat → Prop} {Γ : fG} {N nL kc ks : Nat} {I : fM} {P : fN} {pc pc' : Nat} {lv : List (Nat × Value)} {st : List Value} {cc : ByteArray} {own : String} {Ts : List Cond} {ret : Option FieldType} {b L : Nat} {xs : Nat → Int32} (G : fC p s m args meth c cc own Ts A Γ N nL ret) (hX : va_X b L xs s s.heap) (hbl : b < s.heap.size) (hbA : ¬ A b) {q v : Int} (hq : 0 ≤ q ∧ q < (L : Int)) (hL : (L : Int) ≤ 2147483647) (hv : v = (xs q.toNat).toInt) (hdg : decode cc pc = .ok (.iaload, 1)) (hpc : pc + 1 = pc') (k : fV p l e R s m args below meth c Q A Γ N nL kc ks I P pc' lv (.int (i32 v) :: st)) : fV p l e R s m args below meth c Q A Γ N nL kc ks I P pc lv (.int (i32 q) :: .ref b :: st) := by
  subst hpc
  intro H locs ls hP hS hl
  refine va_sld G.1 G.2.1 hX hbl hbA hS (i32_in hq hL) hdg ?_
  have e1 : (i32 q).toNatClampNeg = q.toNat := by
    have := i32_clamp (a := q) (by omega)
    omega
  rw [e1, ← i32_self (xs q.toNat), ← hv]
  exact k H locs ls hP hS hl
theorem fV_slen {p : Program} {l : Launch} {e : Env} {R : Room} {s : State} {m : MethodId} {args : Array Value} {below : List Frame} {meth : Method} {c : Code} {Q : State → Prop} {A : Nat → Prop} {Γ : fG} {N nL kc ks : Nat} {I : fM} {P : fN} {pc pc' : Nat} {lv : List (Nat × Value)} {st : List Value} {cc : ByteArray} {own : String} {Ts : List Cond} {ret : Option FieldType} {b L : Nat} {xs : Nat → Int32} (G : fC p s m args meth c cc own Ts A Γ N nL ret) (hX : va_X b L xs s s.heap) (hbl : b < s.heap.size) (hbA : ¬ A b) (hL : L ≤ 100000) (hdg : decode cc pc = .ok (.arraylength, 1)) (hpc : pc + 1 = pc') (k : fV p l e R s m args below meth c Q A Γ N nL kc ks I P pc' lv (.int (i32 (L : Int)) :: st)) : fV p l e R s m args below meth c Q A Γ N nL kc ks I P pc lv (.ref b :: st) := by
  subst hpc
  intro H locs ls hP hS hl
  refine va_slen G.1 G.2.1 hX hbl hbA hS hdg ?_
  rw [i32_nat hL]
  exact k H locs ls hP hS hl
theorem fV_iandr {p : Program} {l : Launch} {e : Env} {R : Room} {s : State} {m : MethodId} {args : Array Value} {below : List Frame} {meth : Method} {c : Code} {Q : State → Prop} {A : Nat → Prop} {Γ : fG} {N nL kc ks : Nat} {I : fM} {P : fN} {pc pc' : Nat} {lv : List (Nat × Value)} {st : List Value} {cc : ByteArray} {own : String} {Ts : List Cond} {ret : Option FieldType} (G : fC p s m args meth c cc own Ts A Γ N nL ret) {x y : Int32} {t : Int} (ht : t = (x &&& y).toInt) (hdg : decode cc pc = .ok (.iand, 1)) (hpc : pc + 1 = pc') (k : fV p l e R s m args below meth c Q A Γ N nL kc ks I P pc' lv (.int (i32 t) :: st)) : fV p l e R s m args below meth c Q A Γ N nL kc ks I P pc lv (.int y :: .int x :: st) := by
  subst hpc
  intro H locs ls hP hS hl
  refine lv_iand G.1 G.2.1 hdg ?_
  rw [← i32_self (x &&& y), ← ht]
  exact k H locs ls hP hS hl
theorem fV_icmp_same {p : Program} {l : Launch} {e : Env} {R : Room} {s : State} {m : MethodId} {args : Array Value} {below : List Frame} {meth : Method} {c : Code} {Q : State → Prop} {A : Nat → Prop} {Γ : fG} {N nL kc ks : Nat} {I : fM} {P : fN} {pc : Nat} {lv : List (Nat × Value)} {st : List Value} {cc : ByteArray} {own : String} {Ts : List Cond} {ret : Option FieldType} (G : fC p s m args meth c cc own Ts A Γ N nL ret) {x : Int32} {off : Int} {tgt : Nat} (hdg : decode cc pc = .ok (.if_icmp .eq off, 3)) (ht : (pc : Int) + off = (tgt : Int)) (k : fV p l e R s m args below meth c Q A Γ N nL kc ks I P tgt lv st) : fV p l e R s m args below meth c Q A Γ N nL kc ks I P pc lv (.int x :: .int x :: st) :=
  fun H locs ls hP hS hl => lv_icmp_eq G.1 G.2.1 hdg ht (fun _ => k H locs ls hP hS hl) (fun z => absurd rfl (by first | exact z | simpa using z))
theorem fV_ishrr {p : Program} {l : Launch} {e : Env} {R : Room} {s : State} {m : MethodId} {args : Array Value} {below : List Frame} {meth : Method} {c : Code} {Q : State → Prop} {A : Nat → Prop} {Γ : fG} {N nL kc ks : Nat} {I : fM} {P : fN} {pc pc' : Nat} {lv : List (Nat × Value)} {st : List Value} {cc : ByteArray} {own : String} {Ts : List Cond} {ret : Option FieldType} (G : fC p s m args meth c cc own Ts A Γ N nL ret) {x y : Int32} {t : Int} (ht : t = (x >>> (y &&& 31)).toInt) (hdg : decode cc pc = .ok (.ishr, 1)) (hpc : pc + 1 = pc') (k : fV p l e R s m args below meth c Q A Γ N nL kc ks I P pc' lv (.int (i32 t) :: st)) : fV p l e R s m args below meth c Q A Γ N nL kc ks I P pc lv (.int y :: .int x :: st) := by
  subst hpc
  intro H locs ls hP hS hl
  refine lv_ishr G.1 G.2.1 hdg ?_
  rw [← i32_self (x >>> (y &&& 31)), ← ht]
  exact k H locs ls hP hS hl
theorem fV_ldc {p : Program} {l : Launch} {e : Env} {R : Room} {s : State} {m : MethodId} {args : Array Value} {below : List Frame} {meth : Method} {c : Code} {Q : State → Prop} {A : Nat → Prop} {Γ : fG} {N nL kc ks : Nat} {I : fM} {P : fN} {pc pc' : Nat} {lv : List (Nat × Value)} {st : List Value} {cc : ByteArray} {own : String} {Ts : List Cond} {ret : Option FieldType} (G : fC p s m args meth c cc own Ts A Γ N nL ret) {index : Nat} {a : Int} (hm : Cond.constant own index (i32 a) ∈ Ts) (hdg : decode cc pc = .ok (.ldc index, 2)) (hpc : pc + 2 = pc') (k : fV p l e R s m args below meth c Q A Γ N nL kc ks I P pc' lv (.int (i32 a) :: st)) : fV p l e R s m args below meth c Q A Γ N nL kc ks I P pc lv st := by
  subst hpc
  exact fun H locs ls hP hS hl => lv_ldc G.1 G.2.1 G.2.2.2.1 (G.2.2.2.2.1 _ hm) hdg (k H locs ls hP hS hl)
def bt (x : Int32) (i : Nat) : Bool := x.toBitVec.getLsbD i
theorem b_ext {x y : Int32} (h : ∀ i, i < 32 → bt x i = bt y i) : x = y := Int32.toBitVec_inj.mp (BitVec.eq_of_getLsbD_eq (fun i hi => h i hi))
theorem b_or (x y : Int32) (i : Nat) : bt (x ||| y) i = (bt x i || bt y i) := by unfold bt; rw [Int32.toBitVec_or, BitVec.getLsbD_or]
theorem b_and (x y : Int32) (i : Nat) : bt (x &&& y) i = (bt x i && bt y i) := by unfold bt; rw [Int32.toBitVec_and, BitVec.getLsbD_and]
theorem s_l : ∀ n, n < 32 → ((nI n &&& 31).toBitVec.smod 32).toNat = n := by decide +kernel
theorem b_shl (n : Nat) (hn : n < 32) (x : Int32) {i : Nat} (hi : i < 32) : bt (x <<< (nI n &&& 31)) i = (decide (n ≤ i) && bt x (i - n)) := by
  unfold bt
  rw [Int32.toBitVec_shiftLeft]
  show (x.toBitVec <<< ((nI n &&& 31).toBitVec.smod 32).toNat).getLsbD i = _
  rw [s_l n hn, BitVec.getLsbD_shiftLeft]
  rcases Nat.lt_or_ge i n with h | h
  · simp [h, Nat.not_le.mpr h]
  · simp [hi, h, Nat.not_lt.mpr h]
theorem b_sshr (n : Nat) (hn : n < 32) (x : Int32) {i : Nat} (hi : i < 32) : bt (x >>> (nI n &&& 31)) i = if n + i < 32 then bt x (n + i) else bt x 31 := by
  unfold bt
  rw [Int32.toBitVec_shiftRight]
  show (x.toBitVec.sshiftRight ((nI n &&& 31).toBitVec.smod 32).toNat).getLsbD i = _
  rw [s_l n hn, BitVec.getLsbD_sshiftRight, BitVec.msb_eq_getLsbD_last]
  simp [hi]
theorem sSet_bt {c : Int → Bool} : ∀ n : Nat, n ≤ 12 → ∀ w : Nat, w < n → c (w : Int) = true → bt (sSet c (n : Int)) w = true := by
  intro n
  induction n with
  | zero => intro _ w hw; omega
  | succ n ih =>
    intro hn w hw hc
    have e : sSet c ((n : Int) + 1) = _ := sSet_s (c := c) (n := n) (by omega)
    rw [show ((n + 1 : Nat) : Int) = (n : Int) + 1 by omega, e]
    by_cases z : w = n
    · subst z
      rw [if_pos hc, b_or, ← i32_nat (by omega), show Int32.ofNat w = nI w from rfl, b_shl w (by omega) _ (by omega), Nat.sub_self]
      have e0 : bt (i32 1) 0 = true := by decide
      rw [e0]
      simp
    · have k := ih (by omega) w (by omega) hc
      split
      · rw [b_or, k]; rfl
      · exact k
theorem bit_at {x : Int32} {w : Int} (w0 : 0 ≤ w) (w1 : w < 12) (h : bt x w.toNat = true) : ((x >>> (i32 w &&& 31)) &&& i32 1) = i32 1 := by
  have e : i32 w = nI w.toNat := by
    have := i32_nat (n := w.toNat) (by omega)
    rw [show ((w.toNat : Nat) : Int) = w by omega] at this
    exact this.symm
  rw [e]
  refine b_ext (fun i hi => ?_)
  rw [b_and, b_sshr _ (by omega) _ hi]
  by_cases z : i = 0
  · subst z
    rw [if_pos (by omega), Nat.add_zero, h]
    rfl
  · have e1 : bt (i32 1) i = false := (by decide : ∀ i, i < 32 → i ≠ 0 → bt (i32 1) i = false) i hi z
    rw [e1, Bool.and_false]
theorem gone_hi {pct n : Int} {sh r : Int → Int} : sGone pct n sh r ≤ r 2 + r 3 + r 4 + (if r 5 = 0 then 0 else sStl pct (sLeaveR r) - 1) := by
  unfold sGone
  by_cases c : sF (fun i => r 2 < sh i) 0 n < n
  · rw [if_pos c]; exact Int.min_le_left _ _
  · rw [if_neg c]; exact Int.le_refl _
theorem gone_lo {I : fM} {k : Nat} {pct n : Int} {sh : Int → Int} (hw : fWv I k) (hn : 0 ≤ n) : I k 2 < sGone pct n sh (I k) := by
  obtain ⟨w1, w2, w3, w4, w5, w6, w7⟩ := hw
  have h1 := (sF_is (c := fun i => sLeaveR (I k) ≤ sMv pct i) (a := 1) (b := 80) (by omega)).1
  have h2 := sF_is (c := fun i => I k 2 < sh i) (a := 0) (b := n) hn
  unfold sGone sStl
  by_cases c : sF (fun i => I k 2 < sh i) 0 n < n
  · have h3 := h2.2.2 c
    rw [if_pos c]
    split <;> omega
  · rw [if_neg c]
    split <;> omega
theorem ri_row {I : fM} {sc k : Nat} {f : Int} (hv : fSv I sc) (hw : fWv I k) (hp : I k 6 = 1) (h1 : f < sGone (I sc 4) (I sc 3) (I (sc + 2)) (I k)) : 0 ≤ sRowX (I sc 4) (I k) f := by
  obtain ⟨w1, w2, w3, w4, w5, w6, w7⟩ := hw
  have w7 := w7 hp
  have hg := gone_hi (pct := I sc 4) (n := I sc 3) (sh := I (sc + 2)) (r := I k)
  have hb := (sGone_b hv ⟨w1, w2, w3, w4, w5, w6, fun _ => w7⟩ hp).2
  have hm := sMv_b (i := f + 1 - (I k 2 + I k 3 + I k 4)) hv.2.2.1 (by omega)
  unfold sRowX
  by_cases c3 : I k 5 = 3
  · rw [if_pos c3]
    rw [if_neg (by omega)] at hg
    by_cases z : f + 1 - (I k 2 + I k 3 + I k 4) < 1
    · rw [sMv_1 z]; omega
    · have st := sF_is (c := fun i => sLeaveR (I k) ≤ sMv (I sc 4) i) (a := 1) (b := 80) (by omega)
      have hlt : f + 1 - (I k 2 + I k 3 + I k 4) < sStl (I sc 4) (sLeaveR (I k)) := by omega
      have hno : ¬ sLeaveR (I k) ≤ sMv (I sc 4) (f + 1 - (I k 2 + I k 3 + I k 4)) := st.2.1 _ (by omega) hlt
      have el : sLeaveR (I k) = I k 7 + 1 := by
        unfold sLeaveR
        rw [if_neg (by omega), if_neg (by omega), if_pos c3]
      rw [el] at hno
      omega
  · rw [if_neg c3]
    split <;> omega
theorem on_bit {I : fM} {P : fN} {w f : Int} (n12 : I 1 1 ≤ 12) (w0 : 0 ≤ w) (w1 : w < I 1 1) (f0 : 0 ≤ f ∧ f ≤ 4000) (hvw : xVis I P 1 w f) : ((qXOnScreen I P f >>> (i32 w &&& 31)) &&& i32 1) = i32 1 := by
  unfold qXOnScreen
  rw [if_pos f0]
  refine bit_at w0 (by omega) ?_
  have k := sSet_bt (c := fun w => decide (xVis I P 1 w f)) (I 1 1).toNat (by omega) w.toNat (by omega)
  rw [show (((I 1 1).toNat : Nat) : Int) = I 1 1 by omega, show ((w.toNat : Nat) : Int) = w by omega] at k
  exact k (decide_eq_true hvw)
/-- what the reads show of a word that is not put -/
theorem ri_off {I : fM} {P : fN} (ho : xAll I P) {w : Int} (w0 : 0 ≤ w) (w1 : w < I 1 1) (h6 : I (P 2 w) 6 ≠ 1) : qXWord I P w 4 = -19 ∧ qXWord I P w 5 = -19 ∧ qXWord I P w 6 = -19 ∧ (0 ≤ qXWord I P w 0 ∧ qXWord I P w 0 ≤ 2000) ∧ ∀ f, 0 ≤ f → f ≤ 4000 → qXWhere I P w f 0 = -19 := by
  obtain ⟨v1, v2, v3, v4, v5, v6, v7⟩ := ho.1.2.1 w w0 w1
  rw [show P (1 + 1) w = P 2 w from rfl] at v1 v2 v3 v4 v5 v6 v7
  have e : I (P 2 w) 6 = 0 := by omega
  refine ⟨?_, ?_, ?_, ?_, fun f f0 f1 => ?_⟩
  · unfold qXWord
    rw [if_pos ⟨⟨w0, w1⟩, by decide⟩, if_neg (by decide), if_neg (by decide), if_pos e]
  · unfold qXWord
    rw [if_pos ⟨⟨w0, w1⟩, by decide⟩, if_neg (by decide), if_neg (by decide), if_pos e]
  · unfold qXWord
    rw [if_pos ⟨⟨w0, w1⟩, by decide⟩, if_neg (by decide), if_neg (by decide), if_pos e]
  · unfold qXWord
    rw [if_pos ⟨⟨w0, w1⟩, by decide⟩, if_neg (by decide), if_pos (by decide)]
    exact v2
  · unfold qXWhere
    rw [if_pos ⟨⟨w0, w1⟩, ⟨f0, f1⟩, by decide⟩, if_neg (fun z => h6 z.1)]
/-- of one that is put -/
theorem ri_on {I : fM} {P : fN} (ho : xAll I P) {w : Int} (w0 : 0 ≤ w) (w1 : w < I 1 1) (h6 : I (P 2 w) 6 = 1) : ∃ la co fi sp he le way g : Int, ((0 ≤ la ∧ la ≤ 7) ∧ 0 ≤ co ∧ co + le ≤ 40) ∧ ((0 ≤ fi ∧ fi ≤ 2000) ∧ (1 ≤ sp ∧ sp ≤ 60) ∧ (0 ≤ he ∧ he ≤ 60) ∧ (1 ≤ le ∧ le ≤ 12) ∧ (0 ≤ way ∧ way ≤ 4)) ∧ (fi < g ∧ g ≤ 2300) ∧ (way = 0 → g ≤ fi + sp + he) ∧ (qXWord I P w 0 = fi ∧ qXWord I P w 1 = sp ∧ qXWord I P w 2 = he ∧ qXWord I P w 3 = way ∧ qXWord I P w 4 = la ∧ qXWord I P w 5 = co ∧ qXWord I P w 6 = g - 1 ∧ qXWord I P w 7 = le) ∧ (qXWhere I P w fi 0 = la ∧ qXWhere I P w fi 1 = co ∧ qXWhere I P w g 0 = -19 ∧ (0 ≤ qXWhere I P w (g - 1) 0 ∧ qXWhere I P w (g - 1) 0 ≤ 200000) ∧ (0 < fi → qXWhere I P w (fi - 1) 0 = -19)) ∧ ((qXOnScreen I P (g - 1) >>> (i32 w &&& 31)) &&& i32 1) = i32 1 ∧ 1 ≤ qXFilled I P fi := by
  have hv := ho.1.1
  have hw := ho.1.2.1 w w0 w1
  rw [show P (1 + 1) w = P 2 w from rfl] at hw
  have hlo := gone_lo (pct := I 1 4) (n := I 1 3) (sh := I 3) hw hv.2.1.1
  have hb := sGone_b hv hw h6
  rw [show I (1 + 2) = I 3 from rfl] at hb
  have hhi := gone_hi (pct := I 1 4) (n := I 1 3) (sh := I 3) (r := I (P 2 w))
  have hrow := fun f => ri_row (f := f) hv hw h6
  rw [show I (1 + 2) = I 3 from rfl] at hrow
  have hrb := fun f hf => (sRowX_b (pct := I 1 4) (f := f) hv.2.2.1 hw hf h6).2
  obtain ⟨v1, v2, v3, v4, v5, v6, v7⟩ := hw
  have v7 := v7 h6
  have n12 := hv.1.2
  have vis : ∀ f, I (P 2 w) 2 ≤ f → f < sGone (I 1 4) (I 1 3) (I 3) (I (P 2 w)) → xVis I P 1 w f := fun f f0 f1 => ⟨h6, f0, f1⟩
  have er : sRowX (I 1 4) (I (P 2 w)) (I (P 2 w) 2) = I (P 2 w) 7 := sRowX_s (by omega)
  have ec : sColX (I 1 4) (I (P 2 w)) (I (P 2 w) 2) = I (P 2 w) 8 := sColX_s (by omega)
  refine ⟨I (P 2 w) 7, I (P 2 w) 8, I (P 2 w) 2, I (P 2 w) 3, I (P 2 w) 4, I (P 2 w) 1, I (P 2 w) 5, sGone (I 1 4) (I 1 3) (I 3) (I (P 2 w)), v7, ⟨v2, v3, v4, v1, v5⟩, ⟨hlo, hb.2⟩, fun z => by rw [if_pos z] at hhi; omega, ⟨?_, ?_, ?_, ?_, ?_, ?_, ?_, ?_⟩, ⟨?_, ?_, ?_, ?_, fun z => ?_⟩, ?_, ?_⟩
  · unfold qXWord
    rw [if_pos ⟨⟨w0, w1⟩, by decide⟩, if_neg (by decide), if_pos (by decide)]
    rfl
  · unfold qXWord
    rw [if_pos ⟨⟨w0, w1⟩, by decide⟩, if_neg (by decide), if_pos (by decide)]
    rfl
  · unfold qXWord
    rw [if_pos ⟨⟨w0, w1⟩, by decide⟩, if_neg (by decide), if_pos (by decide)]
    rfl
  · unfold qXWord
    rw [if_pos ⟨⟨w0, w1⟩, by decide⟩, if_neg (by decide), if_pos (by decide)]
    rfl
  · unfold qXWord
    rw [if_pos ⟨⟨w0, w1⟩, by decide⟩, if_neg (by decide), if_neg (by decide), if_neg (by omega), if_pos rfl]
  · unfold qXWord
    rw [if_pos ⟨⟨w0, w1⟩, by decide⟩, if_neg (by decide), if_neg (by decide), if_neg (by omega), if_neg (by decide), if_pos rfl]
  · unfold qXWord
    rw [if_pos ⟨⟨w0, w1⟩, by decide⟩, if_neg (by decide), if_neg (by decide), if_neg (by omega), if_neg (by decide), if_neg (by decide)]
  · unfold qXWord
    rw [if_pos ⟨⟨w0, w1⟩, by decide⟩, if_pos rfl]
  · unfold qXWhere
    rw [if_pos ⟨⟨w0, w1⟩, by omega, by decide⟩, if_pos (vis _ (Int.le_refl _) hlo), if_pos rfl, er]
  · unfold qXWhere
    rw [if_pos ⟨⟨w0, w1⟩, by omega, by decide⟩, if_pos (vis _ (Int.le_refl _) hlo), if_neg (by decide), ec, if_pos (by omega)]
  · unfold qXWhere
    rw [if_pos ⟨⟨w0, w1⟩, by omega, by decide⟩, if_neg (fun z => absurd z.2.2 (Int.lt_irrefl _))]
  · unfold qXWhere
    rw [if_pos ⟨⟨w0, w1⟩, by omega, by decide⟩, if_pos (vis _ (by omega) (by omega)), if_pos rfl]
    exact ⟨hrow _ (by omega), hrb _ (by omega)⟩
  · unfold qXWhere
    rw [if_pos ⟨⟨w0, w1⟩, by omega, by decide⟩, if_neg (fun z => by have h9 : I (P 2 w) 2 ≤ I (P 2 w) 2 - 1 := z.2.1; omega)]
  · exact on_bit n12 w0 w1 (by omega) (vis _ (by omega) (by omega))
  · unfold qXFilled
    rw [if_pos (by omega)]
    have one : ∀ S : Int → Prop, ∀ j : Int, 0 ≤ (@ite _ (S j) (Classical.propDecidable _) 1 0 : Int) := fun S j => by
      by_cases z : S j
      · rw [@if_pos _ (Classical.propDecidable _) z]; decide
      · rw [@if_neg _ (Classical.propDecidable _) z]; exact Int.le_refl _
    have pos : ∀ S : Int → Prop, 0 ≤ sPop S := fun S => by
      unfold sPop
      refine Int.le_trans ?_ (sSum_le (g := fun _ => 0) (fun b _ _ => one S b))
      rw [sSum_z (by decide) (fun _ _ _ => rfl)]
      exact Int.le_refl _
    have cell : xCell I P 1 (I (P 2 w) 7) (I (P 2 w) 2) (I (P 2 w) 8) := by
      refine ⟨by omega, w, w0, w1, vis _ (Int.le_refl _) hlo, er, ?_, ?_⟩
      · rw [show P (1 + 1) w = P 2 w from rfl, ec]; exact Int.le_refl _
      · rw [show P (1 + 1) w = P 2 w from rfl, ec]; omega
    have h1 : 1 ≤ sPop (xCell I P 1 (I (P 2 w) 7) (I (P 2 w) 2)) := by
      have k := sSum_ge (g := fun j => @ite _ (xCell I P 1 (I (P 2 w) 7) (I (P 2 w) 2) j) (Classical.propDecidable _) (1 : Int) 0) (n := 40) (w := I (P 2 w) 8) (fun i _ _ => one _ i) (by omega) (by omega)
      (try dsimp only at k)
      rw [@if_pos _ (Classical.propDecidable _) cell] at k
      exact k
    have k := sSum_ge (g := fun row => sPop (xCell I P 1 row (I (P 2 w) 2))) (n := 8) (w := I (P 2 w) 7) (fun i _ _ => pos _) (by omega) (by omega)
    (try dsimp only at k)
    omega
theorem sShare_s {pct : Int} {r q : Int → Int} {f : Int} : sShare pct r q f ↔ sShare pct q r f := by
  unfold sShare
  constructor
  · rintro ⟨a, b⟩
    exact ⟨a.symm, by omega⟩
  · rintro ⟨a, b⟩
    exact ⟨a.symm, by omega⟩
theorem sMeet_s {pct n : Int} {sh r q : Int → Int} : sMeet pct n sh r q = sMeet pct n sh q r := by
  have eP : (fun f => sShare pct r q f) = (fun f => sShare pct q r f) := funext fun f => propext sShare_s
  have em : max (r 2) (q 2) = max (q 2) (r 2) := by omega
  have en : min (sGone pct n sh r) (sGone pct n sh q) = min (sGone pct n sh q) (sGone pct n sh r) := by omega
  unfold sMeet
  rw [eP, em, en]
  by_cases h : r 6 = 1 ∧ q 6 = 1
  · rw [if_pos h, if_pos h.symm]
  · rw [if_neg h, if_neg (fun z => h z.symm)]
/-- where two words meet, both are on the screen, in one row -/
theorem ri_meet {I : fM} {P : fN} (ho : xAll I P) {a b : Int} (a0 : 0 ≤ a) (a1 : a < I 1 1) (b0 : 0 ≤ b) (b1 : b < I 1 1) (hab : a ≠ b) : qXMeeting I P b a = qXMeeting I P a b ∧ qXMeeting I P a b = xMet I P 1 a b ∧ (qXMeeting I P a b = -19 ∨ ((0 ≤ qXMeeting I P a b ∧ qXMeeting I P a b ≤ 2300) ∧ ((qXOnScreen I P (qXMeeting I P a b) >>> (i32 a &&& 31)) &&& i32 1) = i32 1 ∧ ((qXOnScreen I P (qXMeeting I P a b) >>> (i32 b &&& 31)) &&& i32 1) = i32 1 ∧ qXWhere I P a (qXMeeting I P a b) 0 = qXWhere I P b (qXMeeting I P a b) 0 ∧ -200000 ≤ qXWhere I P b (qXMeeting I P a b) 0 ∧ qXWhere I P b (qXMeeting I P a b) 0 ≤ 200000)) := by
  have hv := ho.1.1
  have n12 := hv.1.2
  have e1 : qXMeeting I P a b = xMet I P 1 a b := by
    unfold qXMeeting
    rw [if_pos ⟨⟨a0, a1⟩, ⟨b0, b1⟩, hab⟩]
  have e2 : qXMeeting I P b a = xMet I P 1 b a := by
    unfold qXMeeting
    rw [if_pos ⟨⟨b0, b1⟩, ⟨a0, a1⟩, fun z => hab z.symm⟩]
  refine ⟨by rw [e1, e2]; exact sMeet_s, e1, ?_⟩
  by_cases hm : qXMeeting I P a b = -19
  · exact Or.inl hm
  refine Or.inr ?_
  have hwa := ho.1.2.1 a a0 a1
  have hwb := ho.1.2.1 b b0 b1
  rw [show P (1 + 1) a = P 2 a from rfl] at hwa
  rw [show P (1 + 1) b = P 2 b from rfl] at hwb
  have ex : xMet I P 1 a b = sMeet (I 1 4) (I 1 3) (I 3) (I (P 2 a)) (I (P 2 b)) := rfl
  rw [e1, ex] at hm ⊢
  have hput : I (P 2 a) 6 = 1 ∧ I (P 2 b) 6 = 1 := Classical.byContradiction fun z => hm (sMeet_no z)
  have ga := sGone_b hv hwa hput.1
  have gb := sGone_b hv hwb hput.2
  rw [show I (1 + 2) = I 3 from rfl] at ga gb
  unfold sMeet at hm ⊢
  rw [if_pos hput] at hm ⊢
  obtain ⟨F, hF⟩ : ∃ F, F = sF (fun f => sShare (I 1 4) (I (P 2 a)) (I (P 2 b)) f) (max (I (P 2 a) 2) (I (P 2 b) 2)) (min (sGone (I 1 4) (I 1 3) (I 3) (I (P 2 a))) (sGone (I 1 4) (I 1 3) (I 3) (I (P 2 b)))) := ⟨_, rfl⟩
  rw [← hF] at hm ⊢
  by_cases hlt : F < min (sGone (I 1 4) (I 1 3) (I 3) (I (P 2 a))) (sGone (I 1 4) (I 1 3) (I 3) (I (P 2 b)))
  · rw [if_pos hlt]
    have hle : max (I (P 2 a) 2) (I (P 2 b) 2) ≤ min (sGone (I 1 4) (I 1 3) (I 3) (I (P 2 a))) (sGone (I 1 4) (I 1 3) (I 3) (I (P 2 b))) := Int.not_lt.mp (fun z => by
      rw [sF_nil (by omega)] at hF
      omega)
    have k := sF_is (c := fun f => sShare (I 1 4) (I (P 2 a)) (I (P 2 b)) f) hle
    rw [← hF] at k
    have k1 := k.1.1
    have k2 := k.2.2 hlt
    have va : xVis I P 1 a F := ⟨hput.1, by show I (P 2 a) 2 ≤ F; omega, by show F < sGone (I 1 4) (I 1 3) (I 3) (I (P 2 a)); omega⟩
    have vb : xVis I P 1 b F := ⟨hput.2, by show I (P 2 b) 2 ≤ F; omega, by show F < sGone (I 1 4) (I 1 3) (I 3) (I (P 2 b)); omega⟩
    have f0 : 0 ≤ F := by have := hwa.2.1.1; omega
    have f1 : F ≤ 2300 := by omega
    have bit : ∀ w : Int, 0 ≤ w → w < I 1 1 → xVis I P 1 w F → ((qXOnScreen I P F >>> (i32 w &&& 31)) &&& i32 1) = i32 1 := fun w w0 w1 hvw => on_bit n12 w0 w1 (by omega) hvw
    have wh : ∀ w : Int, 0 ≤ w → w < I 1 1 → xVis I P 1 w F → qXWhere I P w F 0 = sRowX (I 1 4) (I (P 2 w)) F := fun w w0 w1 hvw => by
      unfold qXWhere
      rw [if_pos ⟨⟨w0, w1⟩, by omega, by decide⟩, if_pos hvw, if_pos rfl]
    have rb := sRowX_b (pct := I 1 4) (f := F) hv.2.2.1 hwb (by omega) hput.2
    refine ⟨⟨f0, f1⟩, bit a a0 a1 va, bit b b0 b1 vb, ?_, ?_⟩
    · rw [wh a a0 a1 va, wh b b0 b1 vb]
      exact k2.1
    · rw [wh b b0 b1 vb]
      exact rb
  · rw [if_neg hlt] at hm
    exact absurd rfl hm
/-- the shots ascend -/
theorem ri_shot {I : fM} {P : fN} {s : Int → Int} {k : Nat} {tp : Nat → Int → Int} (S : St I P s k tp) {i : Int} (i0 : 1 ≤ i) (i1 : i < I 1 3) : qXShot I (i - 1) < qXShot I i ∧ (1 ≤ qXShot I (i - 1) ∧ qXShot I i ≤ 3000) := by
  obtain ⟨-, hv, -, hrel⟩ := St_c0 S
  have c3 : I 1 3 = s 1 := hrel.2.1
  have e : ∀ j : Int, 0 ≤ j → j < I 1 3 → qXShot I j = s (3 + j) := fun j j0 j1 => by
    unfold qXShot
    rw [if_neg (by omega), if_pos j1]
    exact hrel.2.2.2.1 j j0 (by omega)
  have b := fun j j0 j1 => hv.1.2.2.2 j j0 j1
  rw [e i (by omega) i1, e (i - 1) (by omega) (by omega)]
  exact ⟨S.2.2.2.1 (i - 1) i (by omega) (by omega) (by omega), (b (i - 1) (by omega) (by omega)).1, (b i (by omega) (by omega)).2⟩
theorem ri_shot9 {I : fM} (h : 0 ≤ I 1 3) : qXShot I (I 1 3) = -19 := by
  unfold qXShot
  rw [if_neg (by omega), if_neg (by omega)]
/-- sums over pairs -/
theorem sSum_a {g h : Int → Int} {n : Int} : sSum (fun i => g i + h i) n = sSum g n + sSum h n := by
  have key : ∀ k : Nat, sSum (fun i => g i + h i) k = sSum g k + sSum h k := by
    intro k
    induction k with
    | zero => rfl
    | succ k ih =>
      have e1 : sSum (fun i => g i + h i) ((k + 1 : Nat) : Int) = sSum (fun i => g i + h i) k + (g k + h k) := by rw [Int.natCast_succ]; exact sSum_s (by omega)
      have e2 : sSum g ((k + 1 : Nat) : Int) = sSum g k + g k := by rw [Int.natCast_succ]; exact sSum_s (by omega)
      have e3 : sSum h ((k + 1 : Nat) : Int) = sSum h k + h k := by rw [Int.natCast_succ]; exact sSum_s (by omega)
      rw [e1, e2, e3, ih]
      omega
  rcases Int.lt_or_le n 0 with q | q
  · unfold sSum
    rw [show n.toNat = 0 by omega]
    rfl
  · have := key n.toNat
    rw [show ((n.toNat : Nat) : Int) = n by omega] at this
    exact this
theorem pair_swap {c : Int → Int → Int} : ∀ n : Nat, sSum (fun k => sSum (fun j => c j k) k) n = sSum (fun a => sSum (fun b => if a < b then c a b else 0) n) n := by
  intro n
  induction n with
  | zero => rfl
  | succ n ih =>
    have e1 : sSum (fun k => sSum (fun j => c j k) k) ((n + 1 : Nat) : Int) = sSum (fun k => sSum (fun j => c j k) k) n + sSum (fun j => c j n) n := by rw [Int.natCast_succ]; exact sSum_s (by omega)
    have e2 : ∀ a : Int, sSum (fun b => if a < b then c a b else 0) ((n + 1 : Nat) : Int) = sSum (fun b => if a < b then c a b else 0) n + (if a < n then c a n else 0) := fun a => by rw [Int.natCast_succ]; exact sSum_s (by omega)
    have e3 : sSum (fun a => sSum (fun b => if a < b then c a b else 0) ((n + 1 : Nat) : Int)) ((n + 1 : Nat) : Int) = sSum (fun a => sSum (fun b => if a < b then c a b else 0) ((n + 1 : Nat) : Int)) n + sSum (fun b => if (n : Int) < b then c n b else 0) ((n + 1 : Nat) : Int) := by rw [Int.natCast_succ]; exact sSum_s (by omega)
    have e4 : sSum (fun b => if (n : Int) < b then c n b else 0) ((n + 1 : Nat) : Int) = 0 := sSum_z (by omega) (fun i _ h => if_neg (by omega))
    have e5 : sSum (fun a => sSum (fun b => if a < b then c a b else 0) ((n + 1 : Nat) : Int)) n = sSum (fun a => sSum (fun b => if a < b then c a b else 0) n + (if a < n then c a n else 0)) n := sSum_c (fun a _ _ => e2 a)
    have e6 : sSum (fun a => if a < (n : Int) then c a n else 0) n = sSum (fun j => c j n) n := sSum_c (fun i _ h => if_pos h)
    rw [e1, e3, e4, e5, sSum_a, ih, e6]
    omega
/-- the pairs as they are counted by the greater number -/
theorem pairs_by {I : fM} {P : fN} (h : 0 ≤ I 1 1) : sSum (fun k => sSum (fun j => if xMet I P 1 j k ≠ -19 then 1 else 0) k) (I 1 1) = qXPairs I P 1 := by
  have k := pair_swap (c := fun j k => if xMet I P 1 j k ≠ -19 then 1 else 0) (I 1 1).toNat
  rw [show (((I 1 1).toNat : Nat) : Int) = I 1 1 by omega] at k
  rw [k]
  unfold qXPairs
  refine sSum_c (fun a _ _ => sSum_c (fun b _ _ => ?_))
  by_cases z : a < b
  · by_cases y : xMet I P 1 a b ≠ -19
    · rw [if_pos z, if_pos y, if_pos ⟨z, y⟩]
    · rw [if_pos z, if_neg y, if_neg (fun q => y q.2)]
  · rw [if_neg z, if_neg (fun q => z q.1)]
theorem put_by {I : fM} {P : fN} : sSum (fun i => if I (P 2 i) 6 = 1 then 1 else 0) (I 1 1) = qXCount I P 1 := by
  unfold qXCount
  rw [if_neg (by decide), if_pos rfl]
