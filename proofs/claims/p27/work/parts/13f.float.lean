/-! FLOAT: what i steps at a percent's speed are: never NaN, from 0 to 32768, never fewer for more steps; 80 steps are 40 cells at least -/
theorem vf_of_nan {r : UInt32} (h : FP.Core.fIsNaN r = false) : vf_n32 r := by
  unfold vf_n32
  have h1 : ¬ (2139095040 < r.toNat % 2 ^ 31) := fun z => by
    have := (FP.Core.isNaN_bits32 r).mpr z
    rw [h] at this
    cases this
  rw [UInt32.le_iff_toNat_le, UInt32.toNat_and]
  show r.toNat &&& (2 ^ 31 - 1) ≤ 2139095040
  rw [Nat.and_two_pow_sub_one_eq_mod]
  omega
def flOk (n : Nat) : Bool := match FP.Core.val32 (FP.fdiv (FP.i2f (i32 ((n : Int) + 50))) 1120403456) with
  | .fin false c q => decide (-149 ≤ q) && (decide (q ≤ 0) && (decide (2 ^ 148 ≤ c * 2 ^ (q + 149).toNat) && decide (c * 2 ^ (q + 149).toNat ≤ 2 ^ 151)))
  | _ => false
theorem flOk_all : ∀ n, n < 351 → flOk n = true := by decide +kernel
theorem fl_v {pct : Int} (hp : 50 ≤ pct ∧ pct ≤ 400) : ∃ (c : Nat) (q : Int), FP.Core.val32 (FP.fdiv (FP.i2f (i32 pct)) 1120403456) = .fin false c q ∧ (-149 ≤ q ∧ q ≤ 0) ∧ 2 ^ 148 ≤ c * 2 ^ (q + 149).toNat ∧ c * 2 ^ (q + 149).toNat ≤ 2 ^ 151 := by
  have h := flOk_all (pct - 50).toNat (by omega)
  unfold flOk at h
  rw [show (((pct - 50).toNat : Nat) : Int) + 50 = pct by omega] at h
  split at h
  · rename_i c q e
    simp only [Bool.and_eq_true, decide_eq_true_eq] at h
    exact ⟨c, q, e, ⟨h.1, h.2.1⟩, h.2.2.1, h.2.2.2⟩
  · cases h
theorem fl_i {i : Int} (h : 1 ≤ i ∧ i ≤ 5000) : ∃ (c : Nat) (q : Int), FP.Core.val32 (FP.i2f (i32 i)) = .fin false c q ∧ -149 ≤ q ∧ c * 2 ^ (q + 149).toNat = i.toNat * 2 ^ 149 := by
  have hw := FP.Core.i2f_int (a := i32 i) (by rw [i32_toInt (by omega)]; omega)
  have hf := FP.Core.val32_fits (FP.i2f (i32 i))
  unfold FP.Core.FInt at hw
  rw [i32_toInt (by omega)] at hw
  generalize hd : FP.Core.val32 (FP.i2f (i32 i)) = d at hf
  have hd2 : FP.Core.val32 (FP.Core.i2f (i32 i)) = d := hd
  rw [hd2] at hw
  cases d with
  | nan => exact hw.elim
  | inf s => exact hw.elim
  | fin s c q =>
    have hw2 : FP.Core.signed s (c * 2 ^ q.toNat) = i * ((2 ^ (-q).toNat : Nat) : Int) := hw
    have hq : -149 ≤ q := by
      have := hf.2.1
      rw [FP.Core.qmin_b32] at this
      exact this
    have hp2 : (0 : Int) < ((2 ^ (-q).toNat : Nat) : Int) := by exact_mod_cast Nat.two_pow_pos _
    have hpos : 0 < i * ((2 ^ (-q).toNat : Nat) : Int) := Int.mul_pos (by omega) hp2
    have hs : s = false := by
      cases s with
      | false => rfl
      | true =>
        have : FP.Core.signed true (c * 2 ^ q.toNat) = -((c * 2 ^ q.toNat : Nat) : Int) := rfl
        rw [this] at hw2
        omega
    subst hs
    have e1 : ((c * 2 ^ q.toNat : Nat) : Int) = i * ((2 ^ (-q).toNat : Nat) : Int) := hw2
    have e2 : c * 2 ^ q.toNat = i.toNat * 2 ^ (-q).toNat := by
      have e3 : (i.toNat : Int) = i := by omega
      have : ((c * 2 ^ q.toNat : Nat) : Int) = ((i.toNat * 2 ^ (-q).toNat : Nat) : Int) := by
        rw [e1, Int.natCast_mul, e3]
      exact_mod_cast this
    refine ⟨c, q, rfl, hq, ?_⟩
    rcases Int.le_total 0 q with z | z
    · rw [show (-q).toNat = 0 by omega, Nat.pow_zero, Nat.mul_one] at e2
      rw [show (q + 149).toNat = q.toNat + 149 by omega, Nat.pow_add, ← Nat.mul_assoc, e2]
    · rw [show q.toNat = 0 by omega, Nat.pow_zero, Nat.mul_one] at e2
      rw [e2, Nat.mul_assoc, ← Nat.pow_add, show (-q).toNat + (q + 149).toNat = 149 by omega]
/-- the product: a rounding of i * 2^149 * V in units of 2^-298 -/
theorem fl_prod {pct : Int} (hp : 50 ≤ pct ∧ pct ≤ 400) : ∃ V : Nat, (2 ^ 148 ≤ V ∧ V ≤ 2 ^ 151) ∧ ∀ i : Int, 1 ≤ i → i ≤ 5000 → ∃ (A : Nat) (e : Int), -298 ≤ e ∧ FP.Core.inUnits A e (-298) = i.toNat * 2 ^ 149 * V ∧ FP.Core.val32 (FP.fmul (FP.i2f (i32 i)) (FP.fdiv (FP.i2f (i32 pct)) 1120403456)) = FP.Core.roundRatio FP.Core.b32 false A 1 e := by
  obtain ⟨cv, qv, ev, hqv, hv1, hv2⟩ := fl_v hp
  refine ⟨cv * 2 ^ (qv + 149).toNat, ⟨hv1, hv2⟩, fun i h1 h2 => ?_⟩
  obtain ⟨c, q, ei, hq, hc⟩ := fl_i ⟨h1, h2⟩
  refine ⟨c * cv, q + qv, by omega, ?_, ?_⟩
  · unfold FP.Core.inUnits
    rw [← hc, show (q + qv - -298).toNat = (q + 149).toNat + (qv + 149).toNat by omega, Nat.pow_add]
    ac_rfl
  · have := FP.Core.val32_fmul (FP.i2f (i32 i)) (FP.fdiv (FP.i2f (i32 pct)) 1120403456)
    rw [ei, ev] at this
    exact this
theorem fl_n {pct i : Int} (hp : 50 ≤ pct ∧ pct ≤ 400) : FP.Core.fIsNaN (FP.fmul (FP.i2f (i32 i)) (FP.fdiv (FP.i2f (i32 pct)) 1120403456)) = false := by
  obtain ⟨cv, qv, ev, -⟩ := fl_v hp
  exact FP.Core.fmul_out (FP.Core.i2f_fin _) ⟨false, cv, qv, ev⟩
theorem fpv_fin {pct : Int} (hp : 50 ≤ pct ∧ pct ≤ 400) : FP.Core.FFin (FP.fdiv (FP.i2f (i32 pct)) 1120403456) ∧ vf_n32 (FP.fdiv (FP.i2f (i32 pct)) 1120403456) := by
  obtain ⟨cv, qv, ev, -⟩ := fl_v hp
  refine ⟨⟨false, cv, qv, ev⟩, vf_of_nan ?_⟩
  rw [FP.Core.notNaN_iff32, ev]
  exact fun z => by cases z
theorem fmv_n {pct i : Int} (hp : 50 ≤ pct ∧ pct ≤ 400) : vf_n32 (FP.fmul (FP.i2f (i32 i)) (FP.fdiv (FP.i2f (i32 pct)) 1120403456)) := vf_of_nan (fl_n hp)
/-- in whole cells: what the rounding's magnitude is -/
theorem fl_mv {pct i : Int} (hp : 50 ≤ pct ∧ pct ≤ 400) (h1 : 1 ≤ i) {A : Nat} {e : Int} (he : FP.Core.val32 (FP.fmul (FP.i2f (i32 i)) (FP.fdiv (FP.i2f (i32 pct)) 1120403456)) = FP.Core.roundRatio FP.Core.b32 false A 1 e) : sMv pct i = min (2 ^ 31 - 1) ((FP.Core.zmag FP.Core.b32 (FP.Core.roundRatio FP.Core.b32 false A 1 e) / 2 ^ 149 : Nat) : Int) := by
  unfold sMv
  rw [if_neg (by omega)]
  have h := FP.Core.f2i_val (a := FP.fmul (FP.i2f (i32 i)) (FP.fdiv (FP.i2f (i32 pct)) 1120403456)) ((FP.Core.notNaN_iff32 _).mp (fl_n hp))
  rw [he] at h
  have hs : FP.Core.sgn (FP.Core.roundRatio FP.Core.b32 false A 1 e) = false := by
    rcases FP.Core.roundRatio_cases FP.Core.b32 false A 1 e with ⟨c, q, hR⟩ | hR
    · rw [hR]; rfl
    · rw [hR]; rfl
  rw [hs] at h
  have h3 : FP.Core.signed false (FP.Core.zmag FP.Core.b32 (FP.Core.roundRatio FP.Core.b32 false A 1 e) / FP.Core.one32) = ((FP.Core.zmag FP.Core.b32 (FP.Core.roundRatio FP.Core.b32 false A 1 e) / 2 ^ 149 : Nat) : Int) := rfl
  rw [h3] at h
  show (FP.Core.f2i _).toInt = _
  rw [h]
  omega
theorem fl_top {A : Nat} {e : Int} {i V : Nat} (h0 : -298 ≤ e) (hA : FP.Core.inUnits A e (-298) = i * 2 ^ 149 * V) (hi : i ≤ 5000) (hV : V ≤ 2 ^ 151) : FP.Core.zmag FP.Core.b32 (FP.Core.roundRatio FP.Core.b32 false A 1 e) ≤ 2 ^ 164 := by
  have hz : FP.Core.zmag FP.Core.b32 (.fin false (2 ^ 23) (-8)) = 2 ^ 164 := by decide +kernel
  rw [← hz]
  refine FP.Core.zmag_roundRatio_le (e0 := -298) FP.Core.good_b32 (by decide) (by unfold FP.Core.fits; decide +kernel) (by intro z; cases z) (by rw [FP.Core.qmin_b32]; decide) h0 ?_
  rw [hz, hA, FP.Core.qmin_b32, show ((-149 : Int) - -298).toNat = 149 by decide]
  calc i * 2 ^ 149 * V ≤ 5000 * 2 ^ 149 * 2 ^ 151 := Nat.mul_le_mul (Nat.mul_le_mul_right _ hi) hV
    _ ≤ 2 ^ 164 * 2 ^ 149 * 1 := by decide +kernel
theorem sMv_b {pct i : Int} (hp : 50 ≤ pct ∧ pct ≤ 400) (hi : i ≤ 5000) : 0 ≤ sMv pct i ∧ sMv pct i ≤ 32768 := by
  rcases Int.lt_or_le i 1 with z | z
  · unfold sMv; rw [if_pos z]; omega
  · obtain ⟨V, hV, hall⟩ := fl_prod hp
    obtain ⟨A, e, h0, hA, he⟩ := hall i z hi
    rw [fl_mv hp z he]
    have := fl_top h0 hA (by omega) hV.2
    have h2 : FP.Core.zmag FP.Core.b32 (FP.Core.roundRatio FP.Core.b32 false A 1 e) / 2 ^ 149 ≤ 2 ^ 164 / 2 ^ 149 := Nat.div_le_div_right this
    have h3 : (2 : Nat) ^ 164 / 2 ^ 149 = 32768 := by decide +kernel
    rw [h3] at h2
    omega
theorem sMv_80 {pct : Int} (hp : 50 ≤ pct ∧ pct ≤ 400) : 40 ≤ sMv pct 80 := by
  obtain ⟨V, hV, hall⟩ := fl_prod hp
  obtain ⟨A, e, h0, hA, he⟩ := hall 80 (by decide) (by decide)
  rw [fl_mv hp (by decide) he]
  have hz : FP.Core.zmag FP.Core.b32 (.fin false 10485760 (-18)) = 40 * 2 ^ 149 := by decide +kernel
  have h1 : FP.Core.zmag FP.Core.b32 (.fin false 10485760 (-18)) ≤ FP.Core.zmag FP.Core.b32 (FP.Core.roundRatio FP.Core.b32 false A 1 e) := by
    refine FP.Core.zmag_roundRatio_ge (e0 := -298) FP.Core.good_b32 (by decide) (by unfold FP.Core.fits; decide +kernel) (by rw [FP.Core.qmin_b32]; decide) h0 ?_
    rw [hz, hA, FP.Core.qmin_b32, show ((-149 : Int) - -298).toNat = 149 by decide]
    calc 40 * 2 ^ 149 * 2 ^ 149 * 1 ≤ 80 * 2 ^ 149 * 2 ^ 148 := by decide +kernel
      _ ≤ (80 : Int).toNat * 2 ^ 149 * V := Nat.mul_le_mul_left _ hV.1
  rw [hz] at h1
  have h2 : 40 * 2 ^ 149 / 2 ^ 149 ≤ FP.Core.zmag FP.Core.b32 (FP.Core.roundRatio FP.Core.b32 false A 1 e) / 2 ^ 149 := Nat.div_le_div_right h1
  have h3 : (40 : Nat) * 2 ^ 149 / 2 ^ 149 = 40 := by decide +kernel
  rw [h3] at h2
  omega
theorem fl_fin {A : Nat} {e : Int} (h : FP.Core.zmag FP.Core.b32 (FP.Core.roundRatio FP.Core.b32 false A 1 e) ≤ 2 ^ 164) : ∃ c q, FP.Core.roundRatio FP.Core.b32 false A 1 e = .fin false c q := by
  rcases FP.Core.roundRatio_cases FP.Core.b32 false A 1 e with ⟨c, q, hR⟩ | hR
  · exact ⟨c, q, hR⟩
  · rw [hR] at h
    exact absurd h (by decide +kernel)
/-- a greater product has no smaller rounding -/
theorem fl_mono {A B : Nat} {e g : Int} (h0 : -298 ≤ e) (h1 : -298 ≤ g) (hA : FP.Core.zmag FP.Core.b32 (FP.Core.roundRatio FP.Core.b32 false A 1 e) ≤ 2 ^ 164) (hB : FP.Core.zmag FP.Core.b32 (FP.Core.roundRatio FP.Core.b32 false B 1 g) ≤ 2 ^ 164) (h : FP.Core.inUnits A e (-298) < FP.Core.inUnits B g (-298)) : FP.Core.zmag FP.Core.b32 (FP.Core.roundRatio FP.Core.b32 false A 1 e) ≤ FP.Core.zmag FP.Core.b32 (FP.Core.roundRatio FP.Core.b32 false B 1 g) := by
  obtain ⟨c, q, ea⟩ := fl_fin hA
  obtain ⟨d, r, eb⟩ := fl_fin hB
  have fa := FP.Core.roundRatio_fits FP.Core.good_b32 false A (B := 1) (by decide) e
  have fb := FP.Core.roundRatio_fits FP.Core.good_b32 false B (B := 1) (by decide) g
  rw [ea] at fa
  rw [eb] at fb
  have hq : (-298 : Int) ≤ FP.Core.Fmt.qmin FP.Core.b32 := by rw [FP.Core.qmin_b32]; decide
  have d1 := FP.Core.roundRatio_nearest (e0 := -298) FP.Core.good_b32 (by decide) ea fb.1 fb.2.1 hq h0
  have d2 := FP.Core.roundRatio_nearest (e0 := -298) FP.Core.good_b32 (by decide) eb fa.1 fa.2.1 hq h1
  unfold FP.Core.distance at d1 d2
  rw [FP.Core.units_fin fa hq, FP.Core.units_fin fb hq] at d1 d2
  rw [ea, eb]
  generalize FP.Core.zmag FP.Core.b32 (.fin false c q) = x at *
  generalize FP.Core.zmag FP.Core.b32 (.fin false d r) = y at *
  refine Nat.le_of_not_lt fun hlt => ?_
  have hp : 0 < 2 ^ (FP.Core.Fmt.qmin FP.Core.b32 - -298).toNat := Nat.two_pow_pos _
  have hm : y * 2 ^ (FP.Core.Fmt.qmin FP.Core.b32 - -298).toNat < x * 2 ^ (FP.Core.Fmt.qmin FP.Core.b32 - -298).toNat := Nat.mul_lt_mul_of_pos_right hlt hp
  generalize y * 2 ^ (FP.Core.Fmt.qmin FP.Core.b32 - -298).toNat = yy at *
  generalize x * 2 ^ (FP.Core.Fmt.qmin FP.Core.b32 - -298).toNat = xx at *
  generalize FP.Core.inUnits A e (-298) = aa at *
  generalize FP.Core.inUnits B g (-298) = bb at *
  omega
theorem sMv_mono {pct i j : Int} (hp : 50 ≤ pct ∧ pct ≤ 400) (hij : i ≤ j) (hj : j ≤ 5000) : sMv pct i ≤ sMv pct j := by
  rcases Int.lt_or_le i 1 with z | z
  · have h1 := (sMv_b hp hj).1
    have h2 : sMv pct i = 0 := by unfold sMv; rw [if_pos z]
    omega
  · by_cases heq : i = j
    · rw [heq]; exact Int.le_refl _
    · obtain ⟨V, hV, hall⟩ := fl_prod hp
      obtain ⟨A, e, h0, hA, he⟩ := hall i z (by omega)
      obtain ⟨B, g, h1, hB, hg⟩ := hall j (by omega) hj
      rw [fl_mv hp z he, fl_mv hp (by omega) hg]
      have hlt : i.toNat * 2 ^ 149 * V < j.toNat * 2 ^ 149 * V := Nat.mul_lt_mul_of_pos_right (Nat.mul_lt_mul_of_pos_right (by omega) (Nat.two_pow_pos _)) (Nat.lt_of_lt_of_le (Nat.two_pow_pos _) hV.1)
      have h3 := fl_mono h0 h1 (fl_top h0 hA (by omega) hV.2) (fl_top h1 hB (by omega) hV.2) (by rw [hA, hB]; exact hlt)
      have h4 : FP.Core.zmag FP.Core.b32 (FP.Core.roundRatio FP.Core.b32 false A 1 e) / 2 ^ 149 ≤ FP.Core.zmag FP.Core.b32 (FP.Core.roundRatio FP.Core.b32 false B 1 g) / 2 ^ 149 := Nat.div_le_div_right h3
      omega
