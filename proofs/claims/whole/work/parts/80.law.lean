/-! LAW: rows of its own -/
theorem i32_r (x : Int32) : -2147483648 ≤ x.toInt ∧ x.toInt ≤ 2147483647 := by
  have h1 := x.le_toInt
  have h2 := x.toInt_lt
  omega
theorem i32_nat {n : Nat} (h : n ≤ 100000) : Int32.ofNat n = i32 (n : Int) := by
  apply Int32.toInt_inj.mp
  rw [i32_toInt (by omega)]
  exact Int32.toInt_ofNat_of_lt (by omega)
theorem fV_sld {p : Program} {l : Launch} {e : Env} {R : Room} {s : State} {m : MethodId} {args : Array Value} {below : List Frame} {meth : Method} {c : Code} {Q : State → Prop} {A : Nat → Prop} {Γ : fG} {N nL kc ks : Nat} {I : fM} {P : fN} {pc pc' : Nat} {lv : List (Nat × Value)} {st : List Value} {cc : ByteArray} {own : String} {Ts : List Cond} {ret : Option FieldType} {b L : Nat} {xs : Nat → Int32} (G : fC p s m args meth c cc own Ts A Γ N nL ret) (hX : va_X b L xs s s.heap) (hbl : b < s.heap.size) (hbA : ¬ A b) {q v : Int} (hq : 0 ≤ q ∧ q < (L : Int)) (hL : (L : Int) ≤ 2147483647) (hv : v = (xs q.toNat).toInt) (hdg : decode cc pc = .ok (.iaload, 1)) (hpc : pc + 1 = pc') (k : fV p l e R s m args below meth c Q A Γ N nL kc ks I P pc' lv (.int (i32 v) :: st)) : fV p l e R s m args below meth c Q A Γ N nL kc ks I P pc lv (.int (i32 q) :: .ref b :: st) := by
  subst hpc
  intro H locs ls hP hS hl
  refine va_sld G.1 G.2.1 hX hbl hbA hS (i32_in hq hL) hdg ?_
  have e1 : (i32 q).toNatClampNeg = q.toNat := by
    have := i32_clamp (a := q) (by omega)
    omega
  rw [e1, ← i32_self (xs q.toNat), ← hv]
  exact k H locs ls hP hS hl
theorem fV_slen {p : Program} {l : Launch} {e : Env} {R : Room} {s : State} {m : MethodId} {args : Array Value} {below : List Frame} {meth : Method} {c : Code} {Q : State → Prop} {A : Nat → Prop} {Γ : fG} {N nL kc ks : Nat} {I : fM} {P : fN} {pc pc' : Nat} {lv : List (Nat × Value)} {st : List Value} {cc : ByteArray} {own : String} {Ts : List Cond} {ret : Option FieldType} {b L : Nat} {xs : Nat → Int32} (G : fC p s m args meth c cc own Ts A Γ N nL ret) (hX : va_X b L xs s s.heap) (hbl : b < s.heap.size) (hbA : ¬ A b) (hL : L ≤ 100000) (hdg : decode cc pc = .ok (.arraylength, 1)) (hpc : pc + 1 = pc') (k : fV p l e R s m args below meth c Q A Γ N nL kc ks I P pc' lv (.int (i32 (L : Int)) :: st)) : fV p l e R s m args below meth c Q A Γ N nL kc ks I P pc lv (.ref b :: st) := by
  subst hpc
  intro H locs ls hP hS hl
  refine va_slen G.1 G.2.1 hX hbl hbA hS hdg ?_
  rw [i32_nat hL]
  exact k H locs ls hP hS hl
theorem fV_iandr {p : Program} {l : Launch} {e : Env} {R : Room} {s : State} {m : MethodId} {args : Array Value} {below : List Frame} {meth : Method} {c : Code} {Q : State → Prop} {A : Nat → Prop} {Γ : fG} {N nL kc ks : Nat} {I : fM} {P : fN} {pc pc' : Nat} {lv : List (Nat × Value)} {st : List Value} {cc : ByteArray} {own : String} {Ts : List Cond} {ret : Option FieldType} (G : fC p s m args meth c cc own Ts A Γ N nL ret) {x y : Int32} {t : Int} (ht : t = (x &&& y).toInt) (hdg : decode cc pc = .ok (.iand, 1)) (hpc : pc + 1 = pc') (k : fV p l e R s m args below meth c Q A Γ N nL kc ks I P pc' lv (.int (i32 t) :: st)) : fV p l e R s m args below meth c Q A Γ N nL kc ks I P pc lv (.int y :: .int x :: st) := by
  subst hpc
  intro H locs ls hP hS hl
  refine lv_iand G.1 G.2.1 hdg ?_
  rw [← i32_self (x &&& y), ← ht]
  exact k H locs ls hP hS hl
theorem fV_icmp_same {p : Program} {l : Launch} {e : Env} {R : Room} {s : State} {m : MethodId} {args : Array Value} {below : List Frame} {meth : Method} {c : Code} {Q : State → Prop} {A : Nat → Prop} {Γ : fG} {N nL kc ks : Nat} {I : fM} {P : fN} {pc : Nat} {lv : List (Nat × Value)} {st : List Value} {cc : ByteArray} {own : String} {Ts : List Cond} {ret : Option FieldType} (G : fC p s m args meth c cc own Ts A Γ N nL ret) {x : Int32} {off : Int} {tgt : Nat} (hdg : decode cc pc = .ok (.if_icmp .eq off, 3)) (ht : (pc : Int) + off = (tgt : Int)) (k : fV p l e R s m args below meth c Q A Γ N nL kc ks I P tgt lv st) : fV p l e R s m args below meth c Q A Γ N nL kc ks I P pc lv (.int x :: .int x :: st) :=
  fun H locs ls hP hS hl => lv_icmp_eq G.1 G.2.1 hdg ht (fun _ => k H locs ls hP hS hl) (fun z => absurd rfl (by first | exact z | simpa using z))
