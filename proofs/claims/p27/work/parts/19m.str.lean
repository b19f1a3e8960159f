/-! STR: the text constants; the JDK's length and charAt over them -/
/-- the letter at place j of constant i -/
def fChr (i j : Nat) : Int := ((fByt.getD i []).getD j 0).toInt
theorem fChr_all : ∀ i, i < 6 → ∀ j, j < fLen.getD i 0 → 97 ≤ fChr i j ∧ fChr i j ≤ 122 := by decide +kernel
theorem fChr_i (i j : Nat) : (fByt.getD i []).getD j 0 = i32 (fChr i j) := (i32_self _).symm
theorem fLen_b : ∀ i, i < 6 → 2 ≤ fLen.getD i 0 ∧ fLen.getD i 0 ≤ 5 := by decide +kernel
theorem b255_all : ∀ n, n < 256 → nI n &&& 255 = nI n ∧ ((nI n).toUInt32 % 65536).toInt32 = nI n ∧ nI n >>> ((0 : Int32) &&& 31) = nI n := by decide +kernel
theorem i32_nI {a : Int} (h : 0 ≤ a) : i32 a = nI a.toNat := by
  obtain ⟨n, hn⟩ : ∃ n : Nat, a = n := ⟨a.toNat, by omega⟩
  subst hn
  rfl
/-- a call's link (a virtual method of a text constant) -/
def fCk (Ts : List Cond) (own : String) (index : Nat) (y : MethodName) (wsy : List Cond) (R rm : Room) (n : Nat) : Prop :=
  ∃ (bytes : ByteArray) (maxL : Nat) (ret : Option FieldType) (ws' : List Cond), GoodIn Ts (wsV own index "java/lang/String" y wsy) ∧ wsy = Cond.code y bytes maxL ret :: ws' ∧ rm.cells = 0 ∧ rm.slots = 0 ∧
    (y.cls = "java/lang/String" ∧ y.cls ≠ "java/lang/invoke/MethodHandle" ∧ y.cls ≠ "java/lang/invoke/VarHandle" ∧ (parseMethodDescriptor y.desc).map (fun d => d.parameters.length) = some n) ∧ rm.frames + 1 ≤ R.frames ∧ 8 + (maxL + 11) + rm.locals ≤ R.locals
section FV
variable {p : Program} {l : Launch} {e : Env} {R : Room} {s : State} {m : MethodId} {args : Array Value} {below : List Frame} {meth : Method} {c : Code} {Q : State → Prop} {A : Nat → Prop} {Γ : fG} {N nL kc ks : Nat} {I : fM} {P : fN} {pc pc' : Nat} {lv lv' : List (Nat × Value)} {st rest : List Value} {cc : ByteArray} {own : String} {Ts : List Cond} {ret : Option FieldType}
theorem fV_callK (G : fC p s m args meth c cc own Ts A Γ N nL ret) {index n i : Nat} {y : MethodName} {wsy : List Cond} {rmy : Room} {post : Option Value → fM → fN → Prop} {As : List Value} (hi : i < 6) (hM : fMet l y wsy rmy Γ N (.ref (Γ.2.2.2 (1 + i)) :: As) I P post) (hcv : fCk Ts own index y wsy R rmy n) (hn : As.length = n) (hst : st = As.reverse ++ .ref (Γ.2.2.2 (1 + i)) :: rest) (hW : (rest.map fun v => v.category).sum ≤ 8) (hkc : kc ≤ R.cells) (hks : ks ≤ R.slots) (hdg : decode cc pc = .ok (.invokevirtual index, 3)) (hpc : pc + 3 = pc') (kk : ∀ (v : Option Value) (I' : fM) (P' : fN), post v I' P' → fV p l e R s m args below meth c Q A Γ N nL kc ks I' P' pc' lv (v.toList ++ rest)) : fV p l e R s m args below meth c Q A Γ N nL kc ks I P pc lv st := by
  subst hpc; subst hst
  obtain ⟨bytes, maxL, ret', ws', hg, hw, hrc, hrs, hd, hR⟩ := hcv
  have hx := G.1
  have hb := G.2.1
  have hml := G.2.2.1
  have hown := G.2.2.2.1
  have hts := G.2.2.2.2.1
  have hfs := G.2.2.2.2.2.2.2.2.1
  refine fV_of_run (a := (Value.ref (Γ.2.2.2 (1 + i)) :: As).toArray) G.2.2.2.2.2.2.2.1 (fun H locs ls hP hS hl => ?_) kk
  exact va_runV (As := As) (rest := rest) ⟨hx, hb, hml, hown, hts⟩ hM (cwV n hts hg hw hrc hrs hd hR) ⟨fW_blind, vk_recv (adK := fun i => Γ.2.2.2 (1 + i)) hfs.2.2.1 hi hS, fun U hU hW => fW_pre G hP hS U hU hW⟩ rfl hn hl.1 rfl (lv_room hW) hdg ⟨by omega, by omega⟩
theorem fV_callKf (G : fC p s m args meth c cc own Ts A Γ N nL ret) {index n i : Nat} {y : MethodName} {wsy : List Cond} {rmy : Room} {v : Option Value} {I' : fM} {P' : fN} {st' As : List Value} (hi : i < 6) (hM : fMet l y wsy rmy Γ N (.ref (Γ.2.2.2 (1 + i)) :: As) I P (fE v I' P')) (hcv : fCk Ts own index y wsy R rmy n) (hn : As.length = n) (hst : st = As.reverse ++ .ref (Γ.2.2.2 (1 + i)) :: rest) (hW : (rest.map fun v => v.category).sum ≤ 8) (hkc : kc ≤ R.cells) (hks : ks ≤ R.slots) (hdg : decode cc pc = .ok (.invokevirtual index, 3)) (hpc : pc + 3 = pc') (hst' : v.toList ++ rest = st') (kk : fV p l e R s m args below meth c Q A Γ N nL kc ks I' P' pc' lv st') : fV p l e R s m args below meth c Q A Γ N nL kc ks I P pc lv st :=
  fV_callK G hi hM hcv hn hst hW hkc hks hdg hpc (fun a b c h => by obtain ⟨h1, h2, h3⟩ := h; rw [h1, h2, h3, hst']; exact kk)
theorem fV_ldcS (G : fC p s m args meth c cc RX1 Ts A Γ N nL ret) {i index : Nat} (hi : i < 6) (hx9 : fSt i = index) (hdg : decode cc pc = .ok (.ldc index, 2)) (hpc : pc + 2 = pc') (k : fV p l e R s m args below meth c Q A Γ N nL kc ks I P pc' lv (.ref (Γ.2.2.2 (1 + i)) :: st)) : fV p l e R s m args below meth c Q A Γ N nL kc ks I P pc lv st := by
  subst hpc; subst hx9
  intro H locs ls hP hS hl
  obtain ⟨hx, hb, -, hown, -, -, -, -, hfs, -⟩ := G
  obtain ⟨-, -, -, h4, -⟩ := hfs
  exact va_ldcS hx hb hown (h4 i hi) hdg (k H locs ls hP hS hl)
theorem fV_getCS (G : fC p s m args meth c cc RJ0 Ts A Γ N nL ret) (hm : Cond.fieldLink RJ0 38 "java/lang/String" "COMPACT_STRINGS" "Z" ∈ Ts) (hdg : decode cc pc = .ok (.getstatic 38, 3)) (hpc : pc + 3 = pc') (k : fV p l e R s m args below meth c Q A Γ N nL kc ks I P pc' lv (.int (i32 1) :: st)) : fV p l e R s m args below meth c Q A Γ N nL kc ks I P pc lv st := by
  subst hpc
  intro H locs ls hP hS hl
  obtain ⟨hx, hb, -, hown, hts, -, -, -, hfs, -⟩ := G
  obtain ⟨-, -, -, -, h5, -⟩ := hfs
  exact va_gets hx hb h5 hS hown (hts _ hm) (fun _ h => h) hdg (k H locs ls hP hS hl)
theorem fV_getSI (G : fC p s m args meth c cc RJ0 Ts A Γ N nL ret) (hm : Cond.fieldLink RJ0 1053 "jdk/internal/util/Preconditions" "SIOOBE_FORMATTER" "Ljava/util/function/BiFunction;" ∈ Ts) (hdg : decode cc pc = .ok (.getstatic 1053, 3)) (hpc : pc + 3 = pc') (k : ∀ v : Value, (v = .null ∨ ∃ t, v = .ref t) → fV p l e R s m args below meth c Q A Γ N nL kc ks I P pc' lv (v :: st)) : fV p l e R s m args below meth c Q A Γ N nL kc ks I P pc lv st := by
  subst hpc
  intro H locs ls hP hS hl
  obtain ⟨hx, hb, -, hown, hts, -, -, -, hfs, -⟩ := G
  obtain ⟨-, -, -, -, -, h6, -⟩ := hfs
  rcases h6 with h6 | ⟨t, h6⟩
  · exact va_gets hx hb h6 hS hown (hts _ hm) (fun _ h => h) hdg (k _ (Or.inl rfl) H locs ls hP hS hl)
  · exact va_gets hx hb h6 hS hown (hts _ hm) (fun _ h => h) hdg (k _ (Or.inr ⟨t, rfl⟩) H locs ls hP hS hl)
theorem fV_getCo (G : fC p s m args meth c cc RJ0 Ts A Γ N nL ret) {i : Nat} (hi : i < 6) (hm : Cond.fieldLink RJ0 15 "java/lang/String" "coder" "B" ∈ Ts) (hdg : decode cc pc = .ok (.getfield 15, 3)) (hpc : pc + 3 = pc') (k : fV p l e R s m args below meth c Q A Γ N nL kc ks I P pc' lv (.int (i32 0) :: st)) : fV p l e R s m args below meth c Q A Γ N nL kc ks I P pc lv (.ref (Γ.2.2.2 (1 + i)) :: st) := by
  subst hpc
  intro H locs ls hP hS hl
  obtain ⟨hx, hb, -, hown, hts, -, -, -, hfs, -⟩ := G
  obtain ⟨-, -, h3, -⟩ := hfs
  exact vk_getf hx hb (h3.1 i hi).2.1 hS hown (hts _ hm) (fun _ h => h) hdg (k H locs ls hP hS hl)
theorem fV_getVa (G : fC p s m args meth c cc RJ0 Ts A Γ N nL ret) {i : Nat} (hi : i < 6) (hm : Cond.fieldLink RJ0 9 "java/lang/String" "value" "[B" ∈ Ts) (hdg : decode cc pc = .ok (.getfield 9, 3)) (hpc : pc + 3 = pc') (k : fV p l e R s m args below meth c Q A Γ N nL kc ks I P pc' lv (.ref (Γ.2.2.2 (7 + i)) :: st)) : fV p l e R s m args below meth c Q A Γ N nL kc ks I P pc lv (.ref (Γ.2.2.2 (1 + i)) :: st) := by
  subst hpc
  intro H locs ls hP hS hl
  obtain ⟨hx, hb, -, hown, hts, -, -, -, hfs, -⟩ := G
  obtain ⟨-, -, h3, -⟩ := hfs
  exact vk_getf hx hb (h3.1 i hi).2.2.1 hS hown (hts _ hm) (fun _ h => h) hdg (k H locs ls hP hS hl)
theorem fV_lenB (G : fC p s m args meth c cc own Ts A Γ N nL ret) {i : Nat} (hi : i < 6) (hdg : decode cc pc = .ok (.arraylength, 1)) (hpc : pc + 1 = pc') (k : fV p l e R s m args below meth c Q A Γ N nL kc ks I P pc' lv (.int (i32 ((fLen.getD i 0 : Nat) : Int)) :: st)) : fV p l e R s m args below meth c Q A Γ N nL kc ks I P pc lv (.ref (Γ.2.2.2 (7 + i)) :: st) := by
  subst hpc
  intro H locs ls hP hS hl
  obtain ⟨hx, hb, -, hown, hts, -, -, -, hfs, -⟩ := G
  obtain ⟨-, -, h3, -⟩ := hfs
  exact va_tlen hx hb (h3.1 i hi).2.2.2 hS (by rw [i32_nI (by omega)]; rfl) hdg (k H locs ls hP hS hl)
theorem fV_ldB (G : fC p s m args meth c cc own Ts A Γ N nL ret) {i : Nat} (hi : i < 6) {j : Int} (hj : 0 ≤ j ∧ j < ((fLen.getD i 0 : Nat) : Int)) (hdg : decode cc pc = .ok (.baload, 1)) (hpc : pc + 1 = pc') (k : fV p l e R s m args below meth c Q A Γ N nL kc ks I P pc' lv (.int (i32 (fChr i j.toNat)) :: st)) : fV p l e R s m args below meth c Q A Γ N nL kc ks I P pc lv (.int (i32 j) :: .ref (Γ.2.2.2 (7 + i)) :: st) := by
  subst hpc
  intro H locs ls hP hS hl
  obtain ⟨hx, hb, -, hown, hts, -, -, -, hfs, -⟩ := G
  obtain ⟨-, -, h3, -⟩ := hfs
  have hb2 := fLen_b i hi
  refine va_tb hx hb (h3.1 i hi).2.2.2 hS (i32_in hj (by omega)) ?_ hdg (k H locs ls hP hS hl)
  have h := i32_clamp (a := j) (by omega)
  rw [show (i32 j).toNatClampNeg = j.toNat by omega, fChr_i]
theorem fV_ishr0 (G : fC p s m args meth c cc own Ts A Γ N nL ret) {a : Int} (ha : 0 ≤ a ∧ a < 256) (hdg : decode cc pc = .ok (.ishr, 1)) (hpc : pc + 1 = pc') (k : fV p l e R s m args below meth c Q A Γ N nL kc ks I P pc' lv (.int (i32 a) :: st)) : fV p l e R s m args below meth c Q A Γ N nL kc ks I P pc lv (.int (i32 0) :: .int (i32 a) :: st) := by
  subst hpc
  have e := (b255_all a.toNat (by omega)).2.2
  rw [← i32_nI ha.1] at e
  exact fun H locs ls hP hS hl => lv_ishr G.1 G.2.1 hdg (by rw [show i32 0 = (0 : Int32) from rfl, e]; exact k H locs ls hP hS hl)
theorem fV_and255 (G : fC p s m args meth c cc own Ts A Γ N nL ret) {a : Int} (ha : 0 ≤ a ∧ a < 256) (hdg : decode cc pc = .ok (.iand, 1)) (hpc : pc + 1 = pc') (k : fV p l e R s m args below meth c Q A Γ N nL kc ks I P pc' lv (.int (i32 a) :: st)) : fV p l e R s m args below meth c Q A Γ N nL kc ks I P pc lv (.int (i32 255) :: .int (i32 a) :: st) := by
  have e := (b255_all a.toNat (by omega)).1
  rw [← i32_nI ha.1] at e
  exact fV_iand G hdg hpc (by rw [show i32 255 = (255 : Int32) from rfl, e]; exact k)
theorem fV_i2c (G : fC p s m args meth c cc own Ts A Γ N nL ret) {a : Int} (ha : 0 ≤ a ∧ a < 256) (hdg : decode cc pc = .ok (.i2c, 1)) (hpc : pc + 1 = pc') (k : fV p l e R s m args below meth c Q A Γ N nL kc ks I P pc' lv (.int (i32 a) :: st)) : fV p l e R s m args below meth c Q A Γ N nL kc ks I P pc lv (.int (i32 a) :: st) := by
  subst hpc
  have e := (b255_all a.toNat (by omega)).2.1
  rw [← i32_nI ha.1] at e
  exact fun H locs ls hP hS hl => lv_i2c G.1 G.2.1 hdg e (k H locs ls hP hS hl)
theorem fV_nret (G : fC p s m args meth c cc own Ts (fA Γ N) Γ N nL ret) {ty : FieldType} (hty : ret = some ty) {x : Int32} (hn : narrow ty (.int x) = .int x) {post : Option Value → fM → fN → Prop} (hdg : decode cc pc = .ok (.ireturn, 1)) (h : post (some (.int x)) I P) : fV p l e R s m args below meth c (MQ below (fQ Γ N post) args s 0 0 (fA Γ N)) (fA Γ N) Γ N nL 0 0 I P pc lv [.int x] := by
  subst hty
  intro H locs ls hP hS hl
  obtain ⟨hx, hb, -, -, -, -, -, -, -, hr, hlk⟩ := G
  exact W.zret hx hb hr hn (fun t ht hW => ⟨⟨_, I, P, rfl, h, by rw [ht]; exact hP⟩, hS.F ht⟩) hS.2.2 hdg hlk
end FV
theorem nar_char {a : Int} (ha : 0 ≤ a ∧ a < 256) : narrow .char (.int (i32 a)) = .int (i32 a) := by
  have e := (b255_all a.toNat (by omega)).2.1
  rw [← i32_nI ha.1] at e
  show Value.int ((i32 a).toUInt32 % 65536).toInt32 = _
  rw [e]
theorem kcJ0len_335 : fCk wsJ0_length_8abf5 RJ0 335 yJ0_coder_7d493 wsJ0_coder_7d493 rmJ0_length_8abf5 rmJ0_coder_7d493 0 := ⟨cJ0_coder_7d493, 1, some .byte, _, gJ0_length_8abf5_J0_coder_7d493, rfl, rfl, rfl, ⟨rfl, by decide, by decide, by decide +kernel⟩, by decide, by decide⟩
theorem kcJ0cha_492 : fCk wsJ0_charAt_5068e RJ0 492 yJ0_isLatin1_aae02 wsJ0_isLatin1_aae02 rmJ0_charAt_5068e rmJ0_isLatin1_aae02 0 := ⟨cJ0_isLatin1_aae02, 1, some .boolean, _, gJ0_charAt_5068e_J0_isLatin1_aae02, rfl, rfl, rfl, ⟨rfl, by decide, by decide, by decide +kernel⟩, by decide, by decide⟩
theorem kcJ0cha_495 : fCf wsJ0_charAt_5068e RJ0 495 yJ1_charAt_3b067 wsJ1_charAt_3b067 rmJ0_charAt_5068e rmJ1_charAt_3b067 2 := ⟨cJ1_charAt_3b067, 2, some .char, _, gJ0_charAt_5068e_J1_charAt_3b067, rfl, rfl, rfl, ⟨by decide, by decide, by decide +kernel⟩, by decide, by decide⟩
theorem kcJ1cha_9 : fCf wsJ1_charAt_3b067 RJ1 9 yJ0_checkIndex_df160 wsJ0_checkIndex_df160 rmJ1_charAt_3b067 rmJ0_checkIndex_df160 2 := ⟨cJ0_checkIndex_df160, 2, none, _, gJ1_charAt_3b067_J0_checkIndex_df160, rfl, rfl, rfl, ⟨by decide, by decide, by decide +kernel⟩, by decide, by decide⟩
theorem kcJ0chk_1059 : fCf wsJ0_checkIndex_df160 RJ0 1059 yJ3_checkIndex_8e157 wsJ3_checkIndex_8e157 rmJ0_checkIndex_df160 rmJ3_checkIndex_8e157 3 := ⟨cJ3_checkIndex_8e157, 3, some .int, _, gJ0_checkIndex_df160_J3_checkIndex_8e157, rfl, rfl, rfl, ⟨by decide, by decide, by decide +kernel⟩, by decide, by decide⟩
theorem kcX1isN_100 : fCk wsX1_isName RX1 100 yJ0_length_8abf5 wsJ0_length_8abf5 rmX1_isName rmJ0_length_8abf5 0 := ⟨cJ0_length_8abf5, 1, some .int, _, gX1_isName_J0_length_8abf5, rfl, rfl, rfl, ⟨rfl, by decide, by decide, by decide +kernel⟩, by decide, by decide⟩
theorem kcX1isN_104 : fCk wsX1_isName RX1 104 yJ0_charAt_5068e wsJ0_charAt_5068e rmX1_isName rmJ0_charAt_5068e 1 := ⟨cJ0_charAt_5068e, 2, some .char, _, gX1_isName_J0_charAt_5068e, rfl, rfl, rfl, ⟨rfl, by decide, by decide, by decide +kernel⟩, by decide, by decide⟩
