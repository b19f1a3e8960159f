/-! POP: how many bits are set (the first six rows are pasted from the kit's laws) -/
theorem wb_cu : ∀ k, k < 64 → ((nI k).toInt64.toUInt64 &&& Int64.toUInt64 63) = UInt64.ofNat k := by decide +kernel
theorem wb_inj {a b : Int64} (h : a.toBitVec = b.toBitVec) : a = b := Int64.toBitVec_inj.mp h
theorem wb_tb (n : Nat) : (lN n).toBitVec = BitVec.ofNat 64 n := rfl
theorem wb_tn {n : Nat} (h : n < 2 ^ 64) : (lN n).toBitVec.toNat = n := by rw [wb_tb, BitVec.toNat_ofNat, Nat.mod_eq_of_lt h]
theorem wb_shr {n k : Nat} (hn : n < 2 ^ 64) (hk : k < 64) : ((lN n).toUInt64 >>> ((nI k).toInt64.toUInt64 &&& Int64.toUInt64 63)).toInt64 = lN (n / 2 ^ k) := by
  rw [wb_cu k hk]
  apply wb_inj
  apply BitVec.eq_of_toNat_eq
  show ((lN n).toUInt64 >>> UInt64.ofNat k).toNat = (BitVec.ofNat 64 _).toNat
  have h1 : (UInt64.ofNat k).toNat = k := by
    show (BitVec.ofNat 64 k).toNat = k
    rw [BitVec.toNat_ofNat, Nat.mod_eq_of_lt (by omega)]
  have h2 : (lN n).toUInt64.toNat = n := wb_tn hn
  rw [UInt64.toNat_shiftRight, h1, h2, Nat.mod_eq_of_lt hk, Nat.shiftRight_eq_div_pow, BitVec.toNat_ofNat, Nat.mod_eq_of_lt (Nat.lt_of_le_of_lt (Nat.div_le_self _ _) hn)]
theorem wb_and {a b : Nat} (ha : a < 2 ^ 64) (hb : b < 2 ^ 64) : lN a &&& lN b = lN (a &&& b) := by
  apply wb_inj
  rw [Int64.toBitVec_and, wb_tb, wb_tb, wb_tb]
  apply BitVec.eq_of_toNat_eq
  rw [BitVec.toNat_and, BitVec.toNat_ofNat, BitVec.toNat_ofNat, BitVec.toNat_ofNat, Nat.mod_eq_of_lt ha, Nat.mod_eq_of_lt hb, Nat.mod_eq_of_lt (Nat.and_lt_two_pow _ hb)]
section FV
variable {p : Program} {l : Launch} {e : Env} {R : Room} {s : State} {m : MethodId} {args : Array Value} {below : List Frame} {meth : Method} {c : Code} {Q : State → Prop} {A : Nat → Prop} {Γ : fG} {N nL kc ks : Nat} {I : fM} {P : fN} {pc pc' : Nat} {lv lv' : List (Nat × Value)} {st rest : List Value} {cc : ByteArray} {own : String} {Ts : List Cond} {ret : Option FieldType}
theorem fV_nladd (G : fC p s m args meth c cc own Ts A Γ N nL ret) {a b : Nat} (hdg : decode cc pc = .ok (.ladd, 1)) (hpc : pc + 1 = pc') (k : fV p l e R s m args below meth c Q A Γ N nL kc ks I P pc' lv (.long (lN (a + b)) :: st)) : fV p l e R s m args below meth c Q A Γ N nL kc ks I P pc lv (.long (lN b) :: .long (lN a) :: st) := by
  subst hpc
  exact fun H locs ls hP hS hl => lv_ladd G.1 G.2.1 hdg (by rw [lN_add]; exact k H locs ls hP hS hl)
theorem fV_nlsub (G : fC p s m args meth c cc own Ts A Γ N nL ret) {a b : Nat} (h : b ≤ a) (hdg : decode cc pc = .ok (.lsub, 1)) (hpc : pc + 1 = pc') (k : fV p l e R s m args below meth c Q A Γ N nL kc ks I P pc' lv (.long (lN (a - b)) :: st)) : fV p l e R s m args below meth c Q A Γ N nL kc ks I P pc lv (.long (lN b) :: .long (lN a) :: st) := by
  subst hpc
  exact fun H locs ls hP hS hl => lv_lsub G.1 G.2.1 hdg (by rw [lN_sub h]; exact k H locs ls hP hS hl)
theorem fV_nland (G : fC p s m args meth c cc own Ts A Γ N nL ret) {a b : Nat} (ha : a < 2 ^ 64) (hb : b < 2 ^ 64) (hdg : decode cc pc = .ok (.land, 1)) (hpc : pc + 1 = pc') (k : fV p l e R s m args below meth c Q A Γ N nL kc ks I P pc' lv (.long (lN (a &&& b)) :: st)) : fV p l e R s m args below meth c Q A Γ N nL kc ks I P pc lv (.long (lN b) :: .long (lN a) :: st) := by
  subst hpc
  exact fun H locs ls hP hS hl => lv_land G.1 G.2.1 hdg (by rw [wb_and ha hb]; exact k H locs ls hP hS hl)
theorem fV_nlshr (G : fC p s m args meth c cc own Ts A Γ N nL ret) {a j : Nat} {x : Int32} (hx : x = nI j) (ha : a < 2 ^ 64) (hj : j < 64) (hdg : decode cc pc = .ok (.lushr, 1)) (hpc : pc + 1 = pc') (k : fV p l e R s m args below meth c Q A Γ N nL kc ks I P pc' lv (.long (lN (a / 2 ^ j)) :: st)) : fV p l e R s m args below meth c Q A Γ N nL kc ks I P pc lv (.int x :: .long (lN a) :: st) := by
  subst hpc; subst hx
  exact fun H locs ls hP hS hl => lv_lushr G.1 G.2.1 hdg (wb_shr ha hj) (k H locs ls hP hS hl)
theorem fV_nl2i (G : fC p s m args meth c cc own Ts A Γ N nL ret) {a : Nat} (hdg : decode cc pc = .ok (.l2i, 1)) (hpc : pc + 1 = pc') (k : fV p l e R s m args below meth c Q A Γ N nL kc ks I P pc' lv (.int (nI a) :: st)) : fV p l e R s m args below meth c Q A Γ N nL kc ks I P pc lv (.long (lN a) :: st) := by
  subst hpc
  exact fun H locs ls hP hS hl => lv_l2i G.1 G.2.1 hdg (lN_i a) (k H locs ls hP hS hl)
end FV
theorem and_by (u v : Nat) : u &&& v = ((u % 256) &&& (v % 256)) + 256 * ((u / 256) &&& (v / 256)) := by
  have h1 : (u &&& v) / 2 ^ 8 = u / 2 ^ 8 &&& v / 2 ^ 8 := Nat.and_div_two_pow
  have h2 : (u &&& v) % 2 ^ 8 = u % 2 ^ 8 &&& v % 2 ^ 8 := Nat.and_mod_two_pow
  have e : (2 : Nat) ^ 8 = 256 := by decide
  rw [e] at h1 h2
  rw [← h1, ← h2]
  omega
/-- a number of at most five bytes masked byte by byte -/
theorem and_5 {a b c d f m : Nat} (ha : a < 256) (hb : b < 256) (hc : c < 256) (hd : d < 256) (hf : f < 256) (hm : m < 256) {M : Nat} (hM : M = m + 256 * (m + 256 * (m + 256 * (m + 256 * (m + 256 * (m + 256 * (m + 256 * m))))))) : (a + 256 * (b + 256 * (c + 256 * (d + 256 * f)))) &&& M = (a &&& m) + 256 * ((b &&& m) + 256 * ((c &&& m) + 256 * ((d &&& m) + 256 * (f &&& m)))) := by
  subst hM
  rw [and_by, show (a + 256 * (b + 256 * (c + 256 * (d + 256 * f)))) % 256 = a by omega, show (a + 256 * (b + 256 * (c + 256 * (d + 256 * f)))) / 256 = b + 256 * (c + 256 * (d + 256 * f)) by omega, show (m + 256 * (m + 256 * (m + 256 * (m + 256 * (m + 256 * (m + 256 * (m + 256 * m))))))) % 256 = m by omega, show (m + 256 * (m + 256 * (m + 256 * (m + 256 * (m + 256 * (m + 256 * (m + 256 * m))))))) / 256 = m + 256 * (m + 256 * (m + 256 * (m + 256 * (m + 256 * (m + 256 * m))))) by omega]
  rw [and_by (b + 256 * (c + 256 * (d + 256 * f))), show (b + 256 * (c + 256 * (d + 256 * f))) % 256 = b by omega, show (b + 256 * (c + 256 * (d + 256 * f))) / 256 = c + 256 * (d + 256 * f) by omega, show (m + 256 * (m + 256 * (m + 256 * (m + 256 * (m + 256 * (m + 256 * m)))))) % 256 = m by omega, show (m + 256 * (m + 256 * (m + 256 * (m + 256 * (m + 256 * (m + 256 * m)))))) / 256 = m + 256 * (m + 256 * (m + 256 * (m + 256 * (m + 256 * m)))) by omega]
  rw [and_by (c + 256 * (d + 256 * f)), show (c + 256 * (d + 256 * f)) % 256 = c by omega, show (c + 256 * (d + 256 * f)) / 256 = d + 256 * f by omega, show (m + 256 * (m + 256 * (m + 256 * (m + 256 * (m + 256 * m))))) % 256 = m by omega, show (m + 256 * (m + 256 * (m + 256 * (m + 256 * (m + 256 * m))))) / 256 = m + 256 * (m + 256 * (m + 256 * (m + 256 * m))) by omega]
  rw [and_by (d + 256 * f), show (d + 256 * f) % 256 = d by omega, show (d + 256 * f) / 256 = f by omega, show (m + 256 * (m + 256 * (m + 256 * (m + 256 * m)))) % 256 = m by omega, show (m + 256 * (m + 256 * (m + 256 * (m + 256 * m)))) / 256 = m + 256 * (m + 256 * (m + 256 * m)) by omega]
  rw [and_by f, show f % 256 = f by omega, show f / 256 = 0 by omega, show (m + 256 * (m + 256 * (m + 256 * m))) % 256 = m by omega, Nat.zero_and, Nat.mul_zero, Nat.add_zero]
def pB (y : Nat) : Nat := y - (y / 2 &&& 85)
def pC (y : Nat) : Nat := (pB y &&& 51) + (pB y / 4 &&& 51)
def pD (y : Nat) : Nat := y % 2 + (y / 2 % 2 + (y / 4 % 2 + (y / 8 % 2 + (y / 16 % 2 + (y / 32 % 2 + (y / 64 % 2 + y / 128 % 2))))))
theorem pB_all : ∀ y, y < 256 → (∀ e, e < 2 → (y / 2 + 128 * e) &&& 85 = y / 2 &&& 85) ∧ (y / 2 &&& 85) ≤ y := by decide +kernel
theorem pC_all : ∀ y, y < 256 → (∀ e, e < 4 → (y / 4 + 64 * e) &&& 51 = y / 4 &&& 51) ∧ (y &&& 51) + (y / 4 &&& 51) < 256 := by decide +kernel
theorem pD_all : ∀ y, y < 256 → (∀ e, e < 5 → (pC y + pC y / 16 + 16 * e) &&& 15 = pD y) ∧ pC y % 16 < 5 ∧ pC y / 16 < 5 ∧ pD y ≤ 8 := by decide +kernel
def nB (n : Nat) : Nat := n - (n / 2 &&& 6148914691236517205)
def nC (n : Nat) : Nat := (nB n &&& 3689348814741910323) + (nB n / 4 &&& 3689348814741910323)
def nD (n : Nat) : Nat := (nC n + nC n / 16) &&& 1085102592571150095
def nE (n : Nat) : Nat := nD n + nD n / 256
def nF (n : Nat) : Nat := nE n + nE n / 65536
def nG (n : Nat) : Nat := nF n + nF n / 4294967296
/-- a number's five bytes -/
abbrev n5 (a b c d f : Nat) : Nat := a + 256 * (b + 256 * (c + 256 * (d + 256 * f)))
theorem nB_5 {a b c d f : Nat} (ha : a < 256) (hb : b < 256) (hc : c < 256) (hd : d < 256) (hf : f < 256) : nB (n5 a b c d f) = n5 (pB a) (pB b) (pB c) (pB d) (pB f) ∧ (n5 a b c d f / 2 &&& 6148914691236517205) ≤ n5 a b c d f := by
  have e : n5 a b c d f / 2 = n5 (a / 2 + 128 * (b % 2)) (b / 2 + 128 * (c % 2)) (c / 2 + 128 * (d % 2)) (d / 2 + 128 * (f % 2)) (f / 2 + 128 * 0) := by unfold n5; omega
  have k : n5 (a / 2 + 128 * (b % 2)) (b / 2 + 128 * (c % 2)) (c / 2 + 128 * (d % 2)) (d / 2 + 128 * (f % 2)) (f / 2 + 128 * 0) &&& 6148914691236517205 = _ := and_5 (m := 85) (by omega) (by omega) (by omega) (by omega) (by omega) (by decide) (by decide)
  have h1 := pB_all a ha
  have h2 := pB_all b hb
  have h3 := pB_all c hc
  have h4 := pB_all d hd
  have h5 := pB_all f hf
  rw [h1.1 _ (by omega), h2.1 _ (by omega), h3.1 _ (by omega), h4.1 _ (by omega), h5.1 _ (by decide)] at k
  unfold nB pB
  rw [e, k]
  unfold n5
  generalize a / 2 &&& 85 = A at *
  generalize b / 2 &&& 85 = B at *
  generalize c / 2 &&& 85 = C at *
  generalize d / 2 &&& 85 = D at *
  generalize f / 2 &&& 85 = F at *
  omega
theorem nC_5 {a b c d f : Nat} (ha : a < 256) (hb : b < 256) (hc : c < 256) (hd : d < 256) (hf : f < 256) : nC (n5 a b c d f) = n5 (pC a) (pC b) (pC c) (pC d) (pC f) := by
  unfold nC
  rw [(nB_5 ha hb hc hd hf).1]
  have la : pB a < 256 := by unfold pB; omega
  have lb : pB b < 256 := by unfold pB; omega
  have lc : pB c < 256 := by unfold pB; omega
  have ld : pB d < 256 := by unfold pB; omega
  have lf : pB f < 256 := by unfold pB; omega
  unfold pC
  generalize pB a = a at *
  generalize pB b = b at *
  generalize pB c = c at *
  generalize pB d = d at *
  generalize pB f = f at *
  have e : n5 a b c d f / 4 = n5 (a / 4 + 64 * (b % 4)) (b / 4 + 64 * (c % 4)) (c / 4 + 64 * (d % 4)) (d / 4 + 64 * (f % 4)) (f / 4 + 64 * 0) := by unfold n5; omega
  have k1 : n5 a b c d f &&& 3689348814741910323 = _ := and_5 (m := 51) la lb lc ld lf (by decide) (by decide)
  have k : n5 (a / 4 + 64 * (b % 4)) (b / 4 + 64 * (c % 4)) (c / 4 + 64 * (d % 4)) (d / 4 + 64 * (f % 4)) (f / 4 + 64 * 0) &&& 3689348814741910323 = _ := and_5 (m := 51) (by omega) (by omega) (by omega) (by omega) (by omega) (by decide) (by decide)
  rw [(pC_all a la).1 _ (by omega), (pC_all b lb).1 _ (by omega), (pC_all c lc).1 _ (by omega), (pC_all d ld).1 _ (by omega), (pC_all f lf).1 _ (by decide)] at k
  rw [e, k, k1]
  unfold n5
  omega
theorem nD_5 {a b c d f : Nat} (ha : a < 256) (hb : b < 256) (hc : c < 256) (hd : d < 256) (hf : f < 256) : nD (n5 a b c d f) = n5 (pD a) (pD b) (pD c) (pD d) (pD f) := by
  unfold nD
  rw [nC_5 ha hb hc hd hf]
  have h1 := pD_all a ha
  have h2 := pD_all b hb
  have h3 := pD_all c hc
  have h4 := pD_all d hd
  have h5 := pD_all f hf
  have e : n5 (pC a) (pC b) (pC c) (pC d) (pC f) + n5 (pC a) (pC b) (pC c) (pC d) (pC f) / 16 = n5 (pC a + pC a / 16 + 16 * (pC b % 16)) (pC b + pC b / 16 + 16 * (pC c % 16)) (pC c + pC c / 16 + 16 * (pC d % 16)) (pC d + pC d / 16 + 16 * (pC f % 16)) (pC f + pC f / 16 + 16 * 0) := by unfold n5; omega
  have k : n5 (pC a + pC a / 16 + 16 * (pC b % 16)) (pC b + pC b / 16 + 16 * (pC c % 16)) (pC c + pC c / 16 + 16 * (pC d % 16)) (pC d + pC d / 16 + 16 * (pC f % 16)) (pC f + pC f / 16 + 16 * 0) &&& 1085102592571150095 = _ := and_5 (m := 15) (by omega) (by omega) (by omega) (by omega) (by omega) (by decide) (by decide)
  rw [h1.1 _ h2.2.1, h2.1 _ h3.2.1, h3.1 _ h4.2.1, h4.1 _ h5.2.1, h5.1 0 (by decide)] at k
  rw [e, k]
theorem nG_5 {a b c d f : Nat} (ha : a < 256) (hb : b < 256) (hc : c < 256) (hd : d < 256) (hf : f < 256) : nG (n5 a b c d f) % 128 = pD a + pD b + pD c + pD d + pD f := by
  have h1 := (pD_all a ha).2.2.2
  have h2 := (pD_all b hb).2.2.2
  have h3 := (pD_all c hc).2.2.2
  have h4 := (pD_all d hd).2.2.2
  have h5 := (pD_all f hf).2.2.2
  unfold nG nF nE
  rw [nD_5 ha hb hc hd hf]
  unfold n5
  generalize pD a = A at *
  generalize pD b = B at *
  generalize pD c = C at *
  generalize pD d = D at *
  generalize pD f = F at *
  rw [show (A + 256 * (B + 256 * (C + 256 * (D + 256 * F)))) / 256 = B + 256 * (C + 256 * (D + 256 * F)) by omega]
  rw [show (A + 256 * (B + 256 * (C + 256 * (D + 256 * F))) + (B + 256 * (C + 256 * (D + 256 * F)))) / 65536 = (C + D) + 256 * (D + F) + 65536 * F by omega]
  rw [show (A + 256 * (B + 256 * (C + 256 * (D + 256 * F))) + (B + 256 * (C + 256 * (D + 256 * F))) + ((C + D) + 256 * (D + F) + 65536 * F)) / 4294967296 = F by omega]
  omega
theorem n5_of {n : Nat} (h : n < 2 ^ 40) : n = n5 (n % 256) (n / 256 % 256) (n / 65536 % 256) (n / 16777216 % 256) (n / 4294967296) := by unfold n5; omega
/-- sums from the front -/
def ns (f : Nat → Nat) : Nat → Nat
  | 0 => 0
  | n + 1 => f 0 + ns (fun j => f (j + 1)) n
theorem ns_last : ∀ (n : Nat) (f : Nat → Nat), ns f (n + 1) = ns f n + f n := by
  intro n
  induction n with
  | zero => intro f; show f 0 + 0 = 0 + f 0; omega
  | succ n ih =>
    intro f
    show f 0 + ns (fun j => f (j + 1)) (n + 1) = f 0 + ns (fun j => f (j + 1)) n + f (n + 1)
    rw [ih]
    omega
theorem ns_8 (f : Nat → Nat) (n : Nat) : ns f (n + 8) = f 0 + (f 1 + (f 2 + (f 3 + (f 4 + (f 5 + (f 6 + (f 7 + ns (fun j => f (j + 8)) n))))))) := rfl
theorem ns_by {y k : Nat} : ns (fun j => y / 2 ^ j % 2) (k + 8) = pD (y % 256) + ns (fun j => y / 256 / 2 ^ j % 2) k := by
  have e : (fun j => y / 2 ^ (j + 8) % 2) = fun j => y / 256 / 2 ^ j % 2 := by
    funext j
    rw [Nat.pow_add, Nat.mul_comm, ← Nat.div_div_eq_div_mul]
  rw [ns_8]
  rw [show ns (fun j => y / 2 ^ (j + 8) % 2) k = ns (fun j => y / 256 / 2 ^ j % 2) k by rw [e]]
  unfold pD
  generalize ns (fun j => y / 256 / 2 ^ j % 2) k = z
  omega
theorem ns_40 {n : Nat} (h : n < 2 ^ 40) : nG n % 128 = ns (fun j => n / 2 ^ j % 2) 40 := by
  rw [show (40 : Nat) = 32 + 8 from rfl, ns_by, show (32 : Nat) = 24 + 8 from rfl, ns_by, show (24 : Nat) = 16 + 8 from rfl, ns_by, show (16 : Nat) = 8 + 8 from rfl, ns_by, show (8 : Nat) = 0 + 8 from rfl, ns_by]
  have e := n5_of h
  have k := nG_5 (a := n % 256) (b := n / 256 % 256) (c := n / 65536 % 256) (d := n / 16777216 % 256) (f := n / 4294967296) (by omega) (by omega) (by omega) (by omega) (by omega)
  rw [← e] at k
  rw [k, show n / 256 / 256 = n / 65536 by omega, show n / 65536 / 256 = n / 16777216 by omega, show n / 16777216 / 256 = n / 4294967296 by omega, show n / 4294967296 % 256 = n / 4294967296 by omega]
  show _ = _ + (_ + (_ + (_ + (_ + 0))))
  omega
theorem sSum_ns {g : Int → Int} {f : Nat → Nat} : ∀ n : Nat, (∀ j : Nat, j < n → g j = f j) → sSum g n = (ns f n : Nat) := by
  intro n
  induction n with
  | zero => intro _; rfl
  | succ n ih =>
    intro h
    have e : sSum g ((n + 1 : Nat) : Int) = sSum g n + g n := by rw [Int.natCast_succ]; exact sSum_s (by omega)
    rw [e, ns_last, ih (fun j hj => h j (by omega)), h n (by omega)]
    omega
/-- how many of forty places are in a set -/
noncomputable def sPop (S : Int → Prop) : Int := sSum (fun j => @ite _ (S j) (Classical.propDecidable _) 1 0) 40
theorem sPop_is {L : Int64} {S : Int → Prop} (h : sBits L S) (h4 : ∀ j : Int, 40 ≤ j → ¬ S j) : ∃ n : Nat, n < 2 ^ 40 ∧ L = lN n ∧ sPop S = ((nG n % 128 : Nat) : Int) := by
  have hb : ∀ j : Nat, L.toBitVec.toNat.testBit j = true ↔ S j ∧ j < 64 := fun j => by
    rw [BitVec.testBit_toNat]
    by_cases hj : j < 64
    · rw [h j hj]
      exact ⟨fun z => ⟨z, hj⟩, fun z => z.1⟩
    · rw [BitVec.getLsbD_of_ge _ _ (by omega)]
      exact ⟨(fun z => by cases z), (fun z => absurd z.2 hj)⟩
  have hlt : L.toBitVec.toNat < 2 ^ 40 := by
    apply Nat.lt_pow_two_of_testBit
    intro j hj
    cases e : L.toBitVec.toNat.testBit j with
    | false => rfl
    | true => exact absurd ((hb j).mp e).1 (h4 j (by omega))
  refine ⟨L.toBitVec.toNat, hlt, ?_, ?_⟩
  · apply wb_inj
    rw [wb_tb, BitVec.ofNat_toNat, BitVec.setWidth_eq]
  · rw [ns_40 hlt]
    unfold sPop
    refine sSum_ns (f := fun j => L.toBitVec.toNat / 2 ^ j % 2) 40 (fun j hj => ?_)
    have k := hb j
    rw [Nat.testBit_eq_decide_div_mod_eq] at k
    by_cases z : S j
    · have k2 := of_decide_eq_true (k.mpr ⟨z, by omega⟩)
      rw [if_pos z, k2]
      rfl
    · rw [if_neg z]
      have k2 : ¬ L.toBitVec.toNat / 2 ^ j % 2 = 1 := fun q => z (k.mp (decide_eq_true q)).1
      omega
/-- a call's link (a static method of any class) -/
def fCf (Ts : List Cond) (own : String) (index : Nat) (y : MethodName) (wsy : List Cond) (R rm : Room) (n : Nat) : Prop :=
  ∃ (bytes : ByteArray) (maxL : Nat) (ret : Option FieldType) (ws' : List Cond), GoodIn Ts (va_wsS own index y wsy) ∧ wsy = Cond.code y bytes maxL ret :: ws' ∧ rm.cells = 0 ∧ rm.slots = 0 ∧
    (y.cls ≠ "java/lang/invoke/MethodHandle" ∧ y.cls ≠ "java/lang/invoke/VarHandle" ∧ (parseMethodDescriptor y.desc).map (fun d => d.parameters.length) = some n) ∧ rm.frames + 1 ≤ R.frames ∧ 8 + (maxL + 11) + rm.locals ≤ R.locals
section FV
variable {p : Program} {l : Launch} {e : Env} {R : Room} {s : State} {m : MethodId} {args : Array Value} {below : List Frame} {meth : Method} {c : Code} {Q : State → Prop} {A : Nat → Prop} {Γ : fG} {N nL kc ks : Nat} {I : fM} {P : fN} {pc pc' : Nat} {lv lv' : List (Nat × Value)} {st rest : List Value} {cc : ByteArray} {own : String} {Ts : List Cond} {ret : Option FieldType}
theorem fV_callF (G : fC p s m args meth c cc own Ts A Γ N nL ret) {index n : Nat} {y : MethodName} {wsy : List Cond} {rmy : Room} {post : Option Value → fM → fN → Prop} {As : List Value} (hM : fMet l y wsy rmy Γ N As I P post) (hcv : fCf Ts own index y wsy R rmy n) (hn : As.length = n) (hst : st = As.reverse ++ rest) (hW : (rest.map fun v => v.category).sum ≤ 8) (hkc : kc ≤ R.cells) (hks : ks ≤ R.slots) (hdg : decode cc pc = .ok (.invokestatic index, 3)) (hpc : pc + 3 = pc') (kk : ∀ (v : Option Value) (I' : fM) (P' : fN), post v I' P' → fV p l e R s m args below meth c Q A Γ N nL kc ks I' P' pc' lv (v.toList ++ rest)) : fV p l e R s m args below meth c Q A Γ N nL kc ks I P pc lv st := by
  subst hpc; subst hst
  obtain ⟨bytes, maxL, ret', ws', hg, hw, hrc, hrs, hd, hR⟩ := hcv
  have hx := G.1
  have hb := G.2.1
  have hml := G.2.2.1
  have hown := G.2.2.2.1
  have hts := G.2.2.2.2.1
  refine fV_of_run (a := As.toArray) G.2.2.2.2.2.2.2.1 (fun H locs ls hP hS hl => ?_) kk
  exact va_runS (As := As) (rest := rest) ⟨hx, hb, hml, hown, hts⟩ hM (va_cwS n hts hg hw hrc hrs hd hR) ⟨fW_blind, fun U hU hW => fW_pre G hP hS U hU hW⟩ rfl hn hl.1 rfl (lv_room hW) hdg ⟨by omega, by omega⟩
theorem fV_callFf (G : fC p s m args meth c cc own Ts A Γ N nL ret) {index n : Nat} {y : MethodName} {wsy : List Cond} {rmy : Room} {v : Option Value} {I' : fM} {P' : fN} {st' As : List Value} (hM : fMet l y wsy rmy Γ N As I P (fE v I' P')) (hcv : fCf Ts own index y wsy R rmy n) (hn : As.length = n) (hst : st = As.reverse ++ rest) (hW : (rest.map fun v => v.category).sum ≤ 8) (hkc : kc ≤ R.cells) (hks : ks ≤ R.slots) (hdg : decode cc pc = .ok (.invokestatic index, 3)) (hpc : pc + 3 = pc') (hst' : v.toList ++ rest = st') (kk : fV p l e R s m args below meth c Q A Γ N nL kc ks I' P' pc' lv st') : fV p l e R s m args below meth c Q A Γ N nL kc ks I P pc lv st :=
  fV_callF G hM hcv hn hst hW hkc hks hdg hpc (fun a b c h => by obtain ⟨h1, h2, h3⟩ := h; rw [h1, h2, h3, hst']; exact kk)
end FV
theorem kcX3_filled_196 : fCf wsX3_filled RX3 196 yJ13_bitCount_95d88 wsJ13_bitCount_95d88 rmX3_filled rmJ13_bitCount_95d88 1 := ⟨cJ13_bitCount_95d88, 2, some .int, _, gX3_filled_J13_bitCount_95d88, rfl, rfl, rfl, ⟨by decide, by decide, by decide +kernel⟩, by decide, by decide⟩
theorem kl_bc314 : Cond.constantLong RJ13 314 (6148914691236517205) ∈ wsJ13_bitCount_95d88 := by decide +kernel
theorem kl_bc316 : Cond.constantLong RJ13 316 (3689348814741910323) ∈ wsJ13_bitCount_95d88 := by decide +kernel
theorem kl_bc318 : Cond.constantLong RJ13 318 (1085102592571150095) ∈ wsJ13_bitCount_95d88 := by decide +kernel
noncomputable def qXFilled (I : fM) (P : fN) (f : Int) : Int := if 0 ≤ f ∧ f ≤ 4000 then sSum (fun row => sPop (xCell I P 1 row f)) 8 else -11
theorem sPop_b {L : Int64} {S : Int → Prop} (h : sBits L S) (h4 : ∀ j : Int, 40 ≤ j → ¬ S j) : 0 ≤ sPop S ∧ sPop S ≤ 128 := by
  obtain ⟨n, -, -, e⟩ := sPop_is h h4
  rw [e]
  omega
theorem and_127 (n : Nat) : nI n &&& i32 127 = i32 ((n % 128 : Nat) : Int) := by
  have h1 : i32 127 = nI 127 := rfl
  have h2 : nI n &&& nI 127 = nI (n &&& 127) := by
    apply Int32.toBitVec_inj.mp
    rw [Int32.toBitVec_and]
    show BitVec.ofNat 32 n &&& BitVec.ofNat 32 127 = BitVec.ofNat 32 (n &&& 127)
    rw [BitVec.ofNat_and]
  have h3 : n &&& 127 = n % 128 := Nat.and_two_pow_sub_one_eq_mod n 7
  rw [h1, h2, h3]
  show Int32.ofNat _ = Int32.ofInt _
  rfl
