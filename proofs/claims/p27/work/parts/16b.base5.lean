/-! BASE 5: the table of lanes -/
section FV
variable {p : Program} {l : Launch} {e : Env} {R : Room} {s : State} {m : MethodId} {args : Array Value} {below : List Frame} {meth : Method} {c : Code} {Q : State → Prop} {A : Nat → Prop} {Γ : fG} {N nL kc ks : Nat} {I : fM} {P : fN} {pc pc' : Nat} {lv lv' : List (Nat × Value)} {st rest : List Value} {cc : ByteArray} {Ts : List Cond} {ret : Option FieldType}
/-- the lane tried at a time -/
def sLane (i : Int) : Int := flane i.toNat
theorem sLane_b (i : Int) : 0 ≤ sLane i ∧ sLane i ≤ 7 := by
  unfold sLane flane
  split <;> decide
theorem fV_getL (G : fC p s m args meth c cc RX0 Ts A Γ N nL ret) (hdg : decode cc pc = .ok (.getstatic 143, 3)) (hpc : pc + 3 = pc') (k : fV p l e R s m args below meth c Q A Γ N nL kc ks I P pc' lv (.ref (Γ.2.2.2 0) :: st)) : fV p l e R s m args below meth c Q A Γ N nL kc ks I P pc lv st := by
  subst hpc
  intro H locs ls hP hS hl
  obtain ⟨hx, hb, -, hown, -, -, -, -, hfs, -⟩ := G
  obtain ⟨z1, -, -, -, -, -, -, -, -, -, z11⟩ := hfs
  exact va_getsN hx hb z1 hS hown (va_any rfl z11) (fun _ h => h) hdg (k H locs ls hP hS hl)
theorem fV_lenL (G : fC p s m args meth c cc RX0 Ts A Γ N nL ret) (hdg : decode cc pc = .ok (.arraylength, 1)) (hpc : pc + 1 = pc') (k : fV p l e R s m args below meth c Q A Γ N nL kc ks I P pc' lv (.int (i32 8) :: st)) : fV p l e R s m args below meth c Q A Γ N nL kc ks I P pc lv (.ref (Γ.2.2.2 0) :: st) := by
  subst hpc
  intro H locs ls hP hS hl
  obtain ⟨hx, hb, -, hown, -, -, -, -, hfs, -⟩ := G
  obtain ⟨-, z2, -⟩ := hfs
  exact va_tlen hx hb z2 hS (by decide) hdg (k H locs ls hP hS hl)
theorem fV_ildL (G : fC p s m args meth c cc RX0 Ts A Γ N nL ret) {i : Int} (hi : 0 ≤ i ∧ i < 8) (hdg : decode cc pc = .ok (.iaload, 1)) (hpc : pc + 1 = pc') (k : fV p l e R s m args below meth c Q A Γ N nL kc ks I P pc' lv (.int (i32 (sLane i)) :: st)) : fV p l e R s m args below meth c Q A Γ N nL kc ks I P pc lv (.int (i32 i) :: .ref (Γ.2.2.2 0) :: st) := by
  subst hpc
  intro H locs ls hP hS hl
  obtain ⟨hx, hb, -, hown, -, -, -, -, hfs, -⟩ := G
  obtain ⟨-, z2, -⟩ := hfs
  refine va_ti hx hb z2 hS (i32_in hi (by decide)) ?_ hdg (k H locs ls hP hS hl)
  have h := i32_clamp (a := i) (by omega)
  unfold sLane
  rw [show (i32 i).toNatClampNeg = i.toNat by omega]
end FV
