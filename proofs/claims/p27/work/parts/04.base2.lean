/-! BASE 2: contexts, contracts, and the judgement over the flat memory -/
def fSt (i : Nat) : Nat := match i with
  | 0 => 32
  | 1 => 47
  | 2 => 108
  | 3 => 110
  | 4 => 112
  | _ => 114
/-- what no method changes: the table of lanes, the text constants, statics of the JDK, links to nest mates -/
def fS (Γ : fG) (A : Nat → Prop) (U : State) (H : Heap) : Prop :=
  va_Z "VoiceWords" "LANE_ORDER" "[I" (.ref (Γ.2.2.2 0)) A U H ∧ va_T .int (Γ.2.2.2 0) 8 (fun j => .int (i32 (flane j))) A U H ∧
  vk_S 6 fLen fByt (fun i => Γ.2.2.2 (1 + i)) (fun i => Γ.2.2.2 (7 + i)) A U H ∧ (∀ i, i < 6 → vk_R RX1 (fSt i) (fTx i) (Γ.2.2.2 (1 + i)) U) ∧
  va_Z "java/lang/String" "COMPACT_STRINGS" "Z" (.int 1) A U H ∧ va_Zq "jdk/internal/util/Preconditions" "SIOOBE_FORMATTER" "Ljava/util/function/BiFunction;" A U H ∧
  va_Nw (.methodLinkNest RX3 29 yX1_init "VoiceWords") U ∧ va_Nw (.methodLinkNest RX0 25 yX2_init "VoiceWords") U ∧ va_Nw (.methodLinkNest RX1 59 yX3_isAllowed "VoiceWords") U ∧ va_Nw (.methodLinkNest RX1 81 yX3_isBetween "VoiceWords") U ∧ va_Nw (.fieldLinkNest RX0 143 "VoiceWords" "LANE_ORDER" "[I" "VoiceWords") U
theorem fS.warm {Γ : fG} {A : Nat → Prop} {s U : State} {H : Heap} (hW : s.WarmedH U.vm) (h : fS Γ A s H) : fS Γ A U H := by
  obtain ⟨h1, h2, h3, h4, h5, h6, h7, h8, h9, h10, h11⟩ := h
  exact ⟨h1.moved hW.alike, h2.moved hW.alike, h3.moved hW.alike, fun i hi => (h4 i hi).warm hW, h5.moved hW.alike, h6.moved hW.alike, h7.warmM hW, h8.warmM hW, h9.warmM hW, h10.warmM hW, h11.warmF hW⟩
theorem fS.same {Γ : fG} {A : Nat → Prop} {s U : State} {H : Heap} (hv : s.vm = U.vm) (h : fS Γ A s H) : fS Γ A U H := by
  obtain ⟨h1, h2, h3, h4, h5, h6, h7, h8, h9, h10, h11⟩ := h
  have hal : s.vm.Alike U.vm := by rw [hv]; exact Vm.Alike.refl _
  exact ⟨h1.moved hal, h2.moved hal, h3.moved hal, fun i hi => (h4 i hi).same hv.symm, h5.moved hal, h6.moved hal, h7.same rfl hv, h8.same rfl hv, h9.same rfl hv, h10.same rfl hv, h11.same rfl hv⟩
theorem fS.kept {Γ : fG} {A : Nat → Prop} {U : State} {H H1 : Heap} (h : fS Γ A U H) (hq : ∀ a : Nat, a < H.size → ¬ A a → H1[a]? = H[a]?) : fS Γ A U H1 := by
  obtain ⟨h1, h2, h3, h4, h5, h6, h7⟩ := h
  exact ⟨h1.kept hq, h2.kept hq, h3.kept hq, h4, h5.kept hq, h6.kept hq, h7⟩
theorem fS.narrow {Γ : fG} {A B : Nat → Prop} {U : State} {H : Heap} (h : fS Γ A U H) (hAB : ∀ q, B q → A q) : fS Γ B U H := by
  obtain ⟨h1, h2, h3, h4, h5, h6, h7⟩ := h
  exact ⟨h1.narrow hAB, h2.narrow hAB, h3.narrow hAB, h4, h5.narrow hAB, h6.narrow hAB, h7⟩
def fty (Γ : fG) : List (ClassId × FieldType) := [(Γ.2.1 0, .int), (Γ.2.1 1, .object RX2), (Γ.2.1 2, .object RX0)]
/-- a method's start -/
def fW (Γ : fG) (N : Nat) (I : fM) (P : fN) (U : State) : Prop := va_P Γ.2.2.1 vwCl (fws Γ N I P) U.heap ∧ va_K Γ.2.2.1 vwCl (fty Γ) U ∧ finj Γ N ∧ fS Γ (fA Γ N) U U.heap
/-- a method's end: its answer, the memory, nothing else changed -/
def fQ (Γ : fG) (N : Nat) (post : Option Value → fM → fN → Prop) : Array Value → State → Outcome → State → Prop := fun _ st oc t => (∃ (v : Option Value) (I' : fM) (P' : fN), oc = .returned v ∧ post v I' P' ∧ va_P Γ.2.2.1 vwCl (fws Γ N I' P') t.heap) ∧ va_F (fA Γ N) st t
/-- a contract -/
def fMet (l : Launch) (y : MethodName) (ws : List Cond) (rm : Room) (Γ : fG) (N : Nat) (av : List Value) (I : fM) (P : fN) (post : Option Value → fM → fN → Prop) : Prop := Met l y ws rm (va_Pc av (fW Γ N I P)) (fQ Γ N post) 0 0 (fA Γ N)
/-- the answer v, the memory I', P' -/
abbrev fE (v : Option Value) (I' : fM) (P' : fN) : Option Value → fM → fN → Prop := fun a b c => a = v ∧ b = I' ∧ c = P'
/-- what holds all through a method's body -/
def fC (p : Program) (s : State) (m : MethodId) (args : Array Value) (meth : Method) (c : Code) (cc : ByteArray) (own : String) (Ts : List Cond) (A : Nat → Prop) (Γ : fG) (N nL : Nat) (ret : Option FieldType) : Prop :=
  p.tables.exec = Jvm.exec ∧ c.code = cc ∧ c.maxLocals = nL ∧ s.vm.findClass own = some m.cls ∧ (∀ w ∈ Ts, w.before args s = true) ∧ va_K Γ.2.2.1 vwCl (fty Γ) s ∧ finj Γ N ∧ (∀ k, k < N → A (Γ.1 k)) ∧ fS Γ A s s.heap ∧ meth.sig.returnType = ret ∧ meth.locks = false
/-- from here, with the memory I, P, the machine comes to Q -/
def fV (p : Program) (l : Launch) (e : Env) (R : Room) (s : State) (m : MethodId) (args : Array Value) (below : List Frame) (meth : Method) (c : Code) (Q : State → Prop) (A : Nat → Prop) (Γ : fG) (N nL kc ks : Nat) (I : fM) (P : fN) (pc : Nat) (lv : List (Nat × Value)) (st : List Value) : Prop :=
  ∀ (H : Heap) (locs : List Loc) (ls : Array Slot), va_P Γ.2.2.1 vwCl (fws Γ N I P) H → va_S A s.heap H locs → lv_has ls nL lv → W p l e R s m args below meth c H locs kc ks Q (F0 m pc ls st)
/-- a field's link: the field j of the class ci is what the constant index of own's pool names -/
def fFl (Ts : List Cond) (own : String) (index ci j : Nat) : Prop := ∃ q : vw_C, vwCl[ci]? = some q ∧ j < q.2.2 ∧ (∀ w ∈ u_ws q.1 q.2.1 q.2.2, w ∈ Ts) ∧ Cond.fieldLink own index q.1 (q.2.1 j).2.1 (q.2.1 j).2.2.1 ∈ Ts ∧ (q.2.1 j).1 = q.1 ∧ ((q.2.1 j).2.2.2 = false → ∃ ty : Nat → FieldType, (∀ k, k < q.2.2 → parseFieldDescriptor (q.2.1 k).2.2.1 = some (ty k)) ∧ (∀ a, a < q.2.2 → ∀ b, b < q.2.2 → a ≠ b → (q.2.1 a).2.1 ≠ (q.2.1 b).2.1))
/-- a call's link (a virtual method): the callee's words among the caller's, its room in the caller's -/
def fCv (Ts : List Cond) (own : String) (index ci : Nat) (y : MethodName) (wsy : List Cond) (R rm : Room) (n : Nat) : Prop :=
  ∃ (q : vw_C) (bytes : ByteArray) (maxL : Nat) (ret : Option FieldType) (ws' : List Cond), vwCl[ci]? = some q ∧ GoodIn Ts (wsV own index q.1 y wsy) ∧ wsy = Cond.code y bytes maxL ret :: ws' ∧ rm.cells = 0 ∧ rm.slots = 0 ∧
    (y.cls = q.1 ∧ y.cls ≠ "java/lang/invoke/MethodHandle" ∧ y.cls ≠ "java/lang/invoke/VarHandle" ∧ (parseMethodDescriptor y.desc).map (fun d => d.parameters.length) = some n) ∧ rm.frames + 1 ≤ R.frames ∧ 8 + (maxL + 11) + rm.locals ≤ R.locals
/-- a call's link (a static method of the class itself) -/
def fCs (Ts : List Cond) (own : String) (index : Nat) (y : MethodName) (wsy : List Cond) (R rm : Room) (n : Nat) : Prop :=
  ∃ (bytes : ByteArray) (maxL : Nat) (ret : Option FieldType) (ws' : List Cond), GoodIn Ts (wsS own index y wsy) ∧ wsy = Cond.code y bytes maxL ret :: ws' ∧ rm.cells = 0 ∧ rm.slots = 0 ∧
    (y.cls = own ∧ y.cls ≠ "java/lang/invoke/MethodHandle" ∧ y.cls ≠ "java/lang/invoke/VarHandle" ∧ (parseMethodDescriptor y.desc).map (fun d => d.parameters.length) = some n) ∧ rm.frames + 1 ≤ R.frames ∧ 8 + (maxL + 11) + rm.locals ≤ R.locals
theorem fW_blind {Γ : fG} {N : Nat} {I : fM} {P : fN} {av : List Value} : FrameBlind (va_Pc av (fW Γ N I P)) := by
  intro a U g mk h
  obtain ⟨h1, h2, h3, h4, h5⟩ := h
  exact ⟨h1, h2, va_K.moved (u := U) (U := U.calling g mk a) (Vm.Alike.refl U.vm) h3, h4, fS.same (s := U) (U := U.calling g mk a) rfl h5⟩
theorem fMet_of {l : Launch} {y : MethodName} {ws ws' : List Cond} {rm : Room} {Γ : fG} {N : Nat} {av : List Value} {I : fM} {P : fN} {post : Option Value → fM → fN → Prop} {cc : ByteArray} {maxL : Nat} {ret : Option FieldType} {own : String} (hw : ws = Cond.code y cc maxL ret :: ws') (hy : plainName y.cls = true) (ho : y.cls = own) (hlen : (lg_sl av).length ≤ maxL)
    (body : ∀ (p : Program) (e : Env) (s : State) (m : MethodId) (args : Array Value) (below : List Frame) (meth : Method) (c : Code), fC p s m args meth c cc own ws (fA Γ N) Γ N maxL ret → fV p l e rm s m args below meth c (MQ below (fQ Γ N post) args s 0 0 (fA Γ N)) (fA Γ N) Γ N maxL 0 0 I P 0 (lv_args 0 av) []) : fMet l y ws rm Γ N av I P post := by
  refine Met.ofW (cc := cc) (maxL := maxL) (ret := ret) hy hw ?_
  intro p e s m args below meth c s₁ B hml hv
  obtain ⟨rfl, hP, hK, hinj, hS⟩ := hv
  have hx := B.exec
  have hb := B.bytes
  have hr := B.returns
  have hts := atoms_spec (ws := ws) B.pre
  have hown : s.vm.findClass own = some m.cls := by rw [← ho]; exact findClass_of_methodNamed B.named
  have hlocks := B.notSynchronized
  rw [lg_entry_eq]
  exact body p e s m _ below meth c ⟨hx, hb, hml, hown, hts, hK, hinj, fun k hk => ⟨k, hk, rfl⟩, hS, hr, hlocks⟩ _ _ _ hP va_S.rf (lv_entry av hlen)
section FV
variable {p : Program} {l : Launch} {e : Env} {R : Room} {s : State} {m : MethodId} {args : Array Value} {below : List Frame} {meth : Method} {c : Code} {Q : State → Prop} {A : Nat → Prop} {Γ : fG} {N nL kc ks : Nat} {I : fM} {P : fN} {pc pc' : Nat} {lv lv' : List (Nat × Value)} {st rest : List Value} {cc : ByteArray} {own : String} {Ts : List Cond} {ret : Option FieldType}
theorem fV_iconst (G : fC p s m args meth c cc own Ts A Γ N nL ret) {n : Int} (hdg : decode cc pc = .ok (.iconst n, 1)) (hpc : pc + 1 = pc') (k : fV p l e R s m args below meth c Q A Γ N nL kc ks I P pc' lv (.int (i32 n) :: st)) : fV p l e R s m args below meth c Q A Γ N nL kc ks I P pc lv st := by
  subst hpc
  exact fun H locs ls hP hS hl => lv_iconst G.1 G.2.1 hdg rfl (k H locs ls hP hS hl)
theorem fV_bipush (G : fC p s m args meth c cc own Ts A Γ N nL ret) {n : Int} (hdg : decode cc pc = .ok (.bipush n, 2)) (hv : (Int8.ofInt n).toInt32 = i32 n) (hpc : pc + 2 = pc') (k : fV p l e R s m args below meth c Q A Γ N nL kc ks I P pc' lv (.int (i32 n) :: st)) : fV p l e R s m args below meth c Q A Γ N nL kc ks I P pc lv st := by
  subst hpc
  exact fun H locs ls hP hS hl => lv_bipush G.1 G.2.1 hdg hv (k H locs ls hP hS hl)
theorem fV_sipush (G : fC p s m args meth c cc own Ts A Γ N nL ret) {n : Int} (hdg : decode cc pc = .ok (.sipush n, 3)) (hv : (Int16.ofInt n).toInt32 = i32 n) (hpc : pc + 3 = pc') (k : fV p l e R s m args below meth c Q A Γ N nL kc ks I P pc' lv (.int (i32 n) :: st)) : fV p l e R s m args below meth c Q A Γ N nL kc ks I P pc lv st := by
  subst hpc
  exact fun H locs ls hP hS hl => lv_sipush G.1 G.2.1 hdg hv (k H locs ls hP hS hl)
theorem fV_lconst (G : fC p s m args meth c cc own Ts A Γ N nL ret) {n : Fin 2} {v : Int} (hdg : decode cc pc = .ok (.lconst n, 1)) (hv : Int64.ofNat (n : Nat) = i64 v) (hpc : pc + 1 = pc') (k : fV p l e R s m args below meth c Q A Γ N nL kc ks I P pc' lv (.long (i64 v) :: st)) : fV p l e R s m args below meth c Q A Γ N nL kc ks I P pc lv st := by
  subst hpc
  exact fun H locs ls hP hS hl => lv_lconst G.1 G.2.1 hdg hv (k H locs ls hP hS hl)
theorem fV_ldc2 (G : fC p s m args meth c cc own Ts A Γ N nL ret) {index : Nat} {v : Int64} {a : Int} (hm : Cond.constantLong own index v ∈ Ts) (hv : v = i64 a) (hdg : decode cc pc = .ok (.ldc2_w index, 3)) (hpc : pc + 3 = pc') (k : fV p l e R s m args below meth c Q A Γ N nL kc ks I P pc' lv (.long (i64 a) :: st)) : fV p l e R s m args below meth c Q A Γ N nL kc ks I P pc lv st := by
  subst hpc; subst hv
  exact fun H locs ls hP hS hl => lv_ldc2 G.1 G.2.1 G.2.2.2.1 (G.2.2.2.2.1 _ hm) hdg (k H locs ls hP hS hl)
theorem fV_iload_n (G : fC p s m args meth c cc own Ts A Γ N nL ret) {j : Fin 4} (q : Nat) {i : Nat} {x : Int32} (hdg : decode cc pc = .ok (.iload_n j, 1)) (hi : (j : Nat) = i) (hq : lv[q]? = some (i, .int x)) (hpc : pc + 1 = pc') (k : fV p l e R s m args below meth c Q A Γ N nL kc ks I P pc' lv (.int x :: st)) : fV p l e R s m args below meth c Q A Γ N nL kc ks I P pc lv st := by
  subst hpc
  exact fun H locs ls hP hS hl => lv_iload_n G.1 G.2.1 hdg hi (lv_at hl q hq) (k H locs ls hP hS hl)
theorem fV_iload (G : fC p s m args meth c cc own Ts A Γ N nL ret) (q : Nat) {i : Nat} {x : Int32} (hdg : decode cc pc = .ok (.iload i, 2)) (hq : lv[q]? = some (i, .int x)) (hpc : pc + 2 = pc') (k : fV p l e R s m args below meth c Q A Γ N nL kc ks I P pc' lv (.int x :: st)) : fV p l e R s m args below meth c Q A Γ N nL kc ks I P pc lv st := by
  subst hpc
  exact fun H locs ls hP hS hl => lv_iload G.1 G.2.1 hdg (lv_at hl q hq) (k H locs ls hP hS hl)
theorem fV_lload_n (G : fC p s m args meth c cc own Ts A Γ N nL ret) {j : Fin 4} (q : Nat) {i : Nat} {x : Int64} (hdg : decode cc pc = .ok (.lload_n j, 1)) (hi : (j : Nat) = i) (hq : lv[q]? = some (i, .long x)) (hpc : pc + 1 = pc') (k : fV p l e R s m args below meth c Q A Γ N nL kc ks I P pc' lv (.long x :: st)) : fV p l e R s m args below meth c Q A Γ N nL kc ks I P pc lv st := by
  subst hpc
  exact fun H locs ls hP hS hl => lv_lload_n G.1 G.2.1 hdg hi (lv_at hl q hq) (k H locs ls hP hS hl)
theorem fV_lload (G : fC p s m args meth c cc own Ts A Γ N nL ret) (q : Nat) {i : Nat} {x : Int64} (hdg : decode cc pc = .ok (.lload i, 2)) (hq : lv[q]? = some (i, .long x)) (hpc : pc + 2 = pc') (k : fV p l e R s m args below meth c Q A Γ N nL kc ks I P pc' lv (.long x :: st)) : fV p l e R s m args below meth c Q A Γ N nL kc ks I P pc lv st := by
  subst hpc
  exact fun H locs ls hP hS hl => lv_lload G.1 G.2.1 hdg (lv_at hl q hq) (k H locs ls hP hS hl)
theorem fV_fload_n (G : fC p s m args meth c cc own Ts A Γ N nL ret) {j : Fin 4} (q : Nat) {i : Nat} {x : UInt32} (hdg : decode cc pc = .ok (.fload_n j, 1)) (hi : (j : Nat) = i) (hq : lv[q]? = some (i, .float x)) (hpc : pc + 1 = pc') (k : fV p l e R s m args below meth c Q A Γ N nL kc ks I P pc' lv (.float x :: st)) : fV p l e R s m args below meth c Q A Γ N nL kc ks I P pc lv st := by
  subst hpc
  exact fun H locs ls hP hS hl => lv_fload_n G.1 G.2.1 hdg hi (lv_at hl q hq) (k H locs ls hP hS hl)
theorem fV_fload (G : fC p s m args meth c cc own Ts A Γ N nL ret) (q : Nat) {i : Nat} {x : UInt32} (hdg : decode cc pc = .ok (.fload i, 2)) (hq : lv[q]? = some (i, .float x)) (hpc : pc + 2 = pc') (k : fV p l e R s m args below meth c Q A Γ N nL kc ks I P pc' lv (.float x :: st)) : fV p l e R s m args below meth c Q A Γ N nL kc ks I P pc lv st := by
  subst hpc
  exact fun H locs ls hP hS hl => lv_fload G.1 G.2.1 hdg (lv_at hl q hq) (k H locs ls hP hS hl)
theorem fV_aload_n (G : fC p s m args meth c cc own Ts A Γ N nL ret) {j : Fin 4} (q : Nat) {i : Nat} {x : Nat} (hdg : decode cc pc = .ok (.aload_n j, 1)) (hi : (j : Nat) = i) (hq : lv[q]? = some (i, .ref x)) (hpc : pc + 1 = pc') (k : fV p l e R s m args below meth c Q A Γ N nL kc ks I P pc' lv (.ref x :: st)) : fV p l e R s m args below meth c Q A Γ N nL kc ks I P pc lv st := by
  subst hpc
  exact fun H locs ls hP hS hl => lv_aload_n G.1 G.2.1 hdg hi (lv_at hl q hq) (k H locs ls hP hS hl)
theorem fV_aload (G : fC p s m args meth c cc own Ts A Γ N nL ret) (q : Nat) {i : Nat} {x : Nat} (hdg : decode cc pc = .ok (.aload i, 2)) (hq : lv[q]? = some (i, .ref x)) (hpc : pc + 2 = pc') (k : fV p l e R s m args below meth c Q A Γ N nL kc ks I P pc' lv (.ref x :: st)) : fV p l e R s m args below meth c Q A Γ N nL kc ks I P pc lv st := by
  subst hpc
  exact fun H locs ls hP hS hl => lv_aload G.1 G.2.1 hdg (lv_at hl q hq) (k H locs ls hP hS hl)
theorem fV_istore_n (G : fC p s m args meth c cc own Ts A Γ N nL ret) {j : Fin 4} {i : Nat} {x : Int32} (hdg : decode cc pc = .ok (.istore_n j, 1)) (hi : (j : Nat) = i) (hn : i < nL) (hl9 : (i, Value.int x) :: lv.filter (fun q => !(q.1 == i) && !(q.1 + 1 == i && q.2.category == 2)) = lv') (hpc : pc + 1 = pc') (k : fV p l e R s m args below meth c Q A Γ N nL kc ks I P pc' lv' st) : fV p l e R s m args below meth c Q A Γ N nL kc ks I P pc lv (.int x :: st) := by
  subst hpc
  exact fun H locs ls hP hS hl => lv_istore_n G.1 G.2.1 hdg hi hl hn hl9 (fun ls' hl' => k H locs ls' hP hS hl')
theorem fV_istore (G : fC p s m args meth c cc own Ts A Γ N nL ret) {i : Nat} {x : Int32} (hdg : decode cc pc = .ok (.istore i, 2)) (hn : i < nL) (hl9 : (i, Value.int x) :: lv.filter (fun q => !(q.1 == i) && !(q.1 + 1 == i && q.2.category == 2)) = lv') (hpc : pc + 2 = pc') (k : fV p l e R s m args below meth c Q A Γ N nL kc ks I P pc' lv' st) : fV p l e R s m args below meth c Q A Γ N nL kc ks I P pc lv (.int x :: st) := by
  subst hpc
  exact fun H locs ls hP hS hl => lv_istore G.1 G.2.1 hdg hl hn hl9 (fun ls' hl' => k H locs ls' hP hS hl')
theorem fV_astore_n (G : fC p s m args meth c cc own Ts A Γ N nL ret) {j : Fin 4} {i : Nat} {x : Nat} (hdg : decode cc pc = .ok (.astore_n j, 1)) (hi : (j : Nat) = i) (hn : i < nL) (hl9 : (i, Value.ref x) :: lv.filter (fun q => !(q.1 == i) && !(q.1 + 1 == i && q.2.category == 2)) = lv') (hpc : pc + 1 = pc') (k : fV p l e R s m args below meth c Q A Γ N nL kc ks I P pc' lv' st) : fV p l e R s m args below meth c Q A Γ N nL kc ks I P pc lv (.ref x :: st) := by
  subst hpc
  exact fun H locs ls hP hS hl => lv_astore_n G.1 G.2.1 hdg hi hl hn hl9 (fun ls' hl' => k H locs ls' hP hS hl')
theorem fV_astore (G : fC p s m args meth c cc own Ts A Γ N nL ret) {i : Nat} {x : Nat} (hdg : decode cc pc = .ok (.astore i, 2)) (hn : i < nL) (hl9 : (i, Value.ref x) :: lv.filter (fun q => !(q.1 == i) && !(q.1 + 1 == i && q.2.category == 2)) = lv') (hpc : pc + 2 = pc') (k : fV p l e R s m args below meth c Q A Γ N nL kc ks I P pc' lv' st) : fV p l e R s m args below meth c Q A Γ N nL kc ks I P pc lv (.ref x :: st) := by
  subst hpc
  exact fun H locs ls hP hS hl => lv_astore G.1 G.2.1 hdg hl hn hl9 (fun ls' hl' => k H locs ls' hP hS hl')
theorem fV_fstore_n (G : fC p s m args meth c cc own Ts A Γ N nL ret) {j : Fin 4} {i : Nat} {x : UInt32} (hdg : decode cc pc = .ok (.fstore_n j, 1)) (hi : (j : Nat) = i) (hn : i < nL) (hl9 : (i, Value.float x) :: lv.filter (fun q => !(q.1 == i) && !(q.1 + 1 == i && q.2.category == 2)) = lv') (hpc : pc + 1 = pc') (k : fV p l e R s m args below meth c Q A Γ N nL kc ks I P pc' lv' st) : fV p l e R s m args below meth c Q A Γ N nL kc ks I P pc lv (.float x :: st) := by
  subst hpc
  exact fun H locs ls hP hS hl => lv_fstore_n G.1 G.2.1 hdg hi hl hn hl9 (fun ls' hl' => k H locs ls' hP hS hl')
theorem fV_fstore (G : fC p s m args meth c cc own Ts A Γ N nL ret) {i : Nat} {x : UInt32} (hdg : decode cc pc = .ok (.fstore i, 2)) (hn : i < nL) (hl9 : (i, Value.float x) :: lv.filter (fun q => !(q.1 == i) && !(q.1 + 1 == i && q.2.category == 2)) = lv') (hpc : pc + 2 = pc') (k : fV p l e R s m args below meth c Q A Γ N nL kc ks I P pc' lv' st) : fV p l e R s m args below meth c Q A Γ N nL kc ks I P pc lv (.float x :: st) := by
  subst hpc
  exact fun H locs ls hP hS hl => lv_fstore G.1 G.2.1 hdg hl hn hl9 (fun ls' hl' => k H locs ls' hP hS hl')
theorem fV_lstore_n (G : fC p s m args meth c cc own Ts A Γ N nL ret) {j : Fin 4} {i : Nat} {x : Int64} (hdg : decode cc pc = .ok (.lstore_n j, 1)) (hi : (j : Nat) = i) (hn : i + 1 < nL) (hl9 : (i, Value.long x) :: lv.filter (fun q => !(q.1 == i) && (!(q.1 == i + 1) && !(q.1 + 1 == i && q.2.category == 2))) = lv') (hpc : pc + 1 = pc') (k : fV p l e R s m args below meth c Q A Γ N nL kc ks I P pc' lv' st) : fV p l e R s m args below meth c Q A Γ N nL kc ks I P pc lv (.long x :: st) := by
  subst hpc
  exact fun H locs ls hP hS hl => lv_lstore_n G.1 G.2.1 hdg hi hl hn hl9 (fun ls' hl' => k H locs ls' hP hS hl')
theorem fV_iinc (G : fC p s m args meth c cc own Ts A Γ N nL ret) (q : Nat) {i : Nat} {n a : Int} (hdg : decode cc pc = .ok (.iinc i n, 3)) (hq : lv[q]? = some (i, .int (i32 a))) (hn : i < nL) (hl9 : (i, Value.int (i32 (a + n))) :: lv.filter (fun q => !(q.1 == i) && !(q.1 + 1 == i && q.2.category == 2)) = lv') (hpc : pc + 3 = pc') (k : fV p l e R s m args below meth c Q A Γ N nL kc ks I P pc' lv' st) : fV p l e R s m args below meth c Q A Γ N nL kc ks I P pc lv st := by
  subst hpc
  exact fun H locs ls hP hS hl => lv_iinc G.1 G.2.1 hdg hl hq (i32_add a n) hn hl9 (fun ls' hl' => k H locs ls' hP hS hl')
theorem fV_iadd (G : fC p s m args meth c cc own Ts A Γ N nL ret) {a b : Int} (hdg : decode cc pc = .ok (.iadd, 1)) (hpc : pc + 1 = pc') (k : fV p l e R s m args below meth c Q A Γ N nL kc ks I P pc' lv (.int (i32 (a + b)) :: st)) : fV p l e R s m args below meth c Q A Γ N nL kc ks I P pc lv (.int (i32 b) :: .int (i32 a) :: st) := by
  subst hpc
  exact fun H locs ls hP hS hl => lv_iadd G.1 G.2.1 hdg (by rw [i32_add]; exact k H locs ls hP hS hl)
theorem fV_isub (G : fC p s m args meth c cc own Ts A Γ N nL ret) {a b : Int} (hdg : decode cc pc = .ok (.isub, 1)) (hpc : pc + 1 = pc') (k : fV p l e R s m args below meth c Q A Γ N nL kc ks I P pc' lv (.int (i32 (a - b)) :: st)) : fV p l e R s m args below meth c Q A Γ N nL kc ks I P pc lv (.int (i32 b) :: .int (i32 a) :: st) := by
  subst hpc
  exact fun H locs ls hP hS hl => lv_isub G.1 G.2.1 hdg (by rw [i32_sub]; exact k H locs ls hP hS hl)
theorem fV_imul (G : fC p s m args meth c cc own Ts A Γ N nL ret) {a b : Int} (hdg : decode cc pc = .ok (.imul, 1)) (hpc : pc + 1 = pc') (k : fV p l e R s m args below meth c Q A Γ N nL kc ks I P pc' lv (.int (i32 (a * b)) :: st)) : fV p l e R s m args below meth c Q A Γ N nL kc ks I P pc lv (.int (i32 b) :: .int (i32 a) :: st) := by
  subst hpc
  exact fun H locs ls hP hS hl => lv_imul G.1 G.2.1 hdg (by rw [i32_mul]; exact k H locs ls hP hS hl)
theorem fV_ineg (G : fC p s m args meth c cc own Ts A Γ N nL ret) {a : Int} (hdg : decode cc pc = .ok (.ineg, 1)) (hpc : pc + 1 = pc') (k : fV p l e R s m args below meth c Q A Γ N nL kc ks I P pc' lv (.int (i32 (-a)) :: st)) : fV p l e R s m args below meth c Q A Γ N nL kc ks I P pc lv (.int (i32 a) :: st) := by
  subst hpc
  exact fun H locs ls hP hS hl => lv_ineg G.1 G.2.1 hdg (by rw [i32_neg]; exact k H locs ls hP hS hl)
theorem i32_div2 {a b : Int} (ha : 0 ≤ a ∧ a ≤ 2147483647) (hb : 0 < b ∧ b ≤ 2147483647) : i32 a / i32 b = i32 (a / b) := by
  apply Int32.toInt_inj.mp
  have h0 : a / b ≤ a := Int.ediv_le_self _ ha.1
  have h1 : 0 ≤ a / b := Int.ediv_nonneg ha.1 (by omega)
  rw [Jvm.Kit.i32_div (by rw [i32_toInt (by omega), i32_toInt (by omega)]; omega), i32_toInt (by omega), i32_toInt (by omega), i32_toInt (by omega), Int.tdiv_eq_ediv_of_nonneg ha.1]
theorem fV_idiv (G : fC p s m args meth c cc own Ts A Γ N nL ret) {a b : Int} (hdg : decode cc pc = .ok (.idiv, 1)) (hpc : pc + 1 = pc') (ha : 0 ≤ a ∧ a ≤ 2147483647) (hb : 0 < b ∧ b ≤ 2147483647) (k : fV p l e R s m args below meth c Q A Γ N nL kc ks I P pc' lv (.int (i32 (a / b)) :: st)) : fV p l e R s m args below meth c Q A Γ N nL kc ks I P pc lv (.int (i32 b) :: .int (i32 a) :: st) := by
  subst hpc
  exact fun H locs ls hP hS hl => lv_idiv G.1 G.2.1 hdg (fun z => by have := (i32_eq (a := b) (b := 0) (by omega) (by omega)).mp z; omega) (by rw [i32_div2 ha hb]; exact k H locs ls hP hS hl)
theorem fV_irem (G : fC p s m args meth c cc own Ts A Γ N nL ret) {a b : Int} (hdg : decode cc pc = .ok (.irem, 1)) (hpc : pc + 1 = pc') (ha : 0 ≤ a ∧ a ≤ 2147483647) (hb : 0 < b ∧ b ≤ 2147483647) (k : fV p l e R s m args below meth c Q A Γ N nL kc ks I P pc' lv (.int (i32 (a % b)) :: st)) : fV p l e R s m args below meth c Q A Γ N nL kc ks I P pc lv (.int (i32 b) :: .int (i32 a) :: st) := by
  subst hpc
  have he : a - a / b * b = a % b := by rw [Int.emod_def, Int.mul_comm b]
  exact fun H locs ls hP hS hl => lv_irem G.1 G.2.1 hdg (fun z => by have := (i32_eq (a := b) (b := 0) (by omega) (by omega)).mp z; omega) (by rw [i32_div2 ha hb, i32_mul, i32_sub, he]; exact k H locs ls hP hS hl)
theorem fV_i2l (G : fC p s m args meth c cc own Ts A Γ N nL ret) {a : Int} (hdg : decode cc pc = .ok (.i2l, 1)) (hpc : pc + 1 = pc') (ha : -2147483648 ≤ a ∧ a ≤ 2147483647) (k : fV p l e R s m args below meth c Q A Γ N nL kc ks I P pc' lv (.long (i64 a) :: st)) : fV p l e R s m args below meth c Q A Γ N nL kc ks I P pc lv (.int (i32 a) :: st) := by
  subst hpc
  exact fun H locs ls hP hS hl => lv_i2l G.1 G.2.1 hdg (i32_l ha) (k H locs ls hP hS hl)
theorem fV_l2i (G : fC p s m args meth c cc own Ts A Γ N nL ret) {a : Int} (hdg : decode cc pc = .ok (.l2i, 1)) (hpc : pc + 1 = pc') (ha : -2147483648 ≤ a ∧ a ≤ 2147483647) (k : fV p l e R s m args below meth c Q A Γ N nL kc ks I P pc' lv (.int (i32 a) :: st)) : fV p l e R s m args below meth c Q A Γ N nL kc ks I P pc lv (.long (i64 a) :: st) := by
  subst hpc
  exact fun H locs ls hP hS hl => lv_l2i G.1 G.2.1 hdg (i64_i ha) (k H locs ls hP hS hl)
theorem fV_ladd (G : fC p s m args meth c cc own Ts A Γ N nL ret) {a b : Int} (hdg : decode cc pc = .ok (.ladd, 1)) (hpc : pc + 1 = pc') (k : fV p l e R s m args below meth c Q A Γ N nL kc ks I P pc' lv (.long (i64 (a + b)) :: st)) : fV p l e R s m args below meth c Q A Γ N nL kc ks I P pc lv (.long (i64 b) :: .long (i64 a) :: st) := by
  subst hpc
  exact fun H locs ls hP hS hl => lv_ladd G.1 G.2.1 hdg (by rw [i64_add]; exact k H locs ls hP hS hl)
theorem fV_lsub (G : fC p s m args meth c cc own Ts A Γ N nL ret) {a b : Int} (hdg : decode cc pc = .ok (.lsub, 1)) (hpc : pc + 1 = pc') (k : fV p l e R s m args below meth c Q A Γ N nL kc ks I P pc' lv (.long (i64 (a - b)) :: st)) : fV p l e R s m args below meth c Q A Γ N nL kc ks I P pc lv (.long (i64 b) :: .long (i64 a) :: st) := by
  subst hpc
  exact fun H locs ls hP hS hl => lv_lsub G.1 G.2.1 hdg (by rw [i64_sub]; exact k H locs ls hP hS hl)
theorem fV_lmul (G : fC p s m args meth c cc own Ts A Γ N nL ret) {a b : Int} (hdg : decode cc pc = .ok (.lmul, 1)) (hpc : pc + 1 = pc') (k : fV p l e R s m args below meth c Q A Γ N nL kc ks I P pc' lv (.long (i64 (a * b)) :: st)) : fV p l e R s m args below meth c Q A Γ N nL kc ks I P pc lv (.long (i64 b) :: .long (i64 a) :: st) := by
  subst hpc
  exact fun H locs ls hP hS hl => lv_lmul G.1 G.2.1 hdg (by rw [i64_mul]; exact k H locs ls hP hS hl)
/-- lcmp and the branch behind it are one: the compare's answer -/
def fcm (a b : Int) : Int := if b < a then 1 else if a = b then 0 else -1
theorem fcm_eq {a b : Int} (ha : -9223372036854775808 ≤ a ∧ a ≤ 9223372036854775807) (hb : -9223372036854775808 ≤ b ∧ b ≤ 9223372036854775807) : lg_cmp (i64 a) (i64 b) = i32 (fcm a b) := by
  unfold lg_cmp fcm
  have h1 := i64_lt hb ha
  have h2 := i64_eq ha hb
  by_cases h : b < a
  · rw [if_pos (h1.mpr h), if_pos h]
    rfl
  · rw [if_neg (fun z => h (h1.mp z)), if_neg h]
    by_cases h3 : a = b
    · rw [if_pos (h2.mpr h3), if_pos h3]
      rfl
    · rw [if_neg (fun z => h3 (h2.mp z)), if_neg h3]
      rfl
theorem fV_lcmp (G : fC p s m args meth c cc own Ts A Γ N nL ret) {a b : Int} (hdg : decode cc pc = .ok (.lcmp, 1)) (hpc : pc + 1 = pc') (ha : -9223372036854775808 ≤ a ∧ a ≤ 9223372036854775807) (hb : -9223372036854775808 ≤ b ∧ b ≤ 9223372036854775807) (k : fV p l e R s m args below meth c Q A Γ N nL kc ks I P pc' lv (.int (i32 (fcm a b)) :: st)) : fV p l e R s m args below meth c Q A Γ N nL kc ks I P pc lv (.long (i64 b) :: .long (i64 a) :: st) := by
  subst hpc
  exact fun H locs ls hP hS hl => W.lcmp G.1 G.2.1 hdg (by rw [fcm_eq ha hb]; exact k H locs ls hP hS hl)
theorem fV_dup (G : fC p s m args meth c cc own Ts A Γ N nL ret) {v : Value} (hdg : decode cc pc = .ok (.dup, 1)) (hv : v.category = 1) (hpc : pc + 1 = pc') (k : fV p l e R s m args below meth c Q A Γ N nL kc ks I P pc' lv (v :: v :: st)) : fV p l e R s m args below meth c Q A Γ N nL kc ks I P pc lv (v :: st) := by
  subst hpc
  exact fun H locs ls hP hS hl => lv_dup G.1 G.2.1 hdg hv (k H locs ls hP hS hl)
theorem fV_dup2 (G : fC p s m args meth c cc own Ts A Γ N nL ret) {v w : Value} (hdg : decode cc pc = .ok (.dup2, 1)) (hv : v.category = 1) (hw : w.category = 1) (hpc : pc + 1 = pc') (k : fV p l e R s m args below meth c Q A Γ N nL kc ks I P pc' lv (v :: w :: v :: w :: st)) : fV p l e R s m args below meth c Q A Γ N nL kc ks I P pc lv (v :: w :: st) := by
  subst hpc
  exact fun H locs ls hP hS hl => lv_dup2_11 G.1 G.2.1 hdg hv hw (k H locs ls hP hS hl)
theorem fV_pop (G : fC p s m args meth c cc own Ts A Γ N nL ret) {v : Value} (hdg : decode cc pc = .ok (.pop, 1)) (hv : v.category = 1) (hpc : pc + 1 = pc') (k : fV p l e R s m args below meth c Q A Γ N nL kc ks I P pc' lv st) : fV p l e R s m args below meth c Q A Γ N nL kc ks I P pc lv (v :: st) := by
  subst hpc
  exact fun H locs ls hP hS hl => lv_pop G.1 G.2.1 hdg hv (k H locs ls hP hS hl)
theorem fV_goto (G : fC p s m args meth c cc own Ts A Γ N nL ret) {off : Int} {tgt : Nat} (hdg : decode cc pc = .ok (.goto off, 3)) (ht : (pc : Int) + off = (tgt : Int)) (k : fV p l e R s m args below meth c Q A Γ N nL kc ks I P tgt lv st) : fV p l e R s m args below meth c Q A Γ N nL kc ks I P pc lv st :=
  fun H locs ls hP hS hl => lv_goto G.1 G.2.1 hdg ht (k H locs ls hP hS hl)
end FV
