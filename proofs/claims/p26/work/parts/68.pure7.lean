theorem div_ge {f : FP.Core.Fmt} (hf : FP.Core.Good f) {x y Ka Kb K : Nat} (hx : Ka * f.tails ≤ FP.Core.mag f x) (hxi : FP.Core.mag f x < FP.Core.infBits f) (hy : FP.Core.mag f y < Kb * f.tails) (hyi : FP.Core.mag f y < FP.Core.infBits f) (hy0 : FP.Core.mag f y ≠ 0)
    (ha : 1 ≤ Ka) (hK : 1 ≤ K) (hK2 : K ≤ f.exps - 1) (h : f.p - 1 + K + Kb ≤ Ka + (-f.qmin).toNat + 1) : K * f.tails ≤ FP.Core.mag f (FP.Core.div f x y) := by
  obtain ⟨s, c, q, x1, x2, x3⟩ := FP.Core.fin_of_mag hf hxi
  obtain ⟨t, d, r, y1, y2, y3⟩ := FP.Core.fin_of_mag hf hyi
  have hq := FP.Core.qmin_neg hf
  have hd0 : d ≠ 0 := by
    rintro rfl
    have h1 : FP.Core.zmag f (.fin t 0 r) = 0 := Nat.zero_mul _
    rw [y3] at h1
    exact hy0 (FP.Core.unitsOf_eq_zero.mp h1)
  have hd : FP.Core.decode f (FP.Core.div f x y) = FP.Core.roundRatio f (s != t) c d (q - r) := by
    unfold FP.Core.div
    rw [FP.Core.decode_enc hf (FP.Core.quotient_fits hf _ _), x1, y1]
    simp only [FP.Core.quotient, if_neg hd0]
  have hx1 := x2.2.1
  have hy1 := y2.2.1
  refine FP.Core.mag_ge hf hd (by omega) (e0 := 2 * f.qmin - r) (by omega) (by omega) (Nat.mul_le_mul_right _ hK2) ?_
  obtain ⟨k1, l1⟩ := FP.Core.units_lt_start hy
  have l2 : f.tails * 2 ^ (Ka - 1) ≤ FP.Core.unitsOf f (FP.Core.mag f x) := by rw [← FP.Core.unitsOf_start ha]; exact FP.Core.unitsOf_le_iff.mpr hx
  rw [FP.Core.unitsOf_start hK]
  have e1 : FP.Core.inUnits c (q - r) (2 * f.qmin - r) = FP.Core.zmag f (.fin s c q) * 2 ^ (-f.qmin).toNat := by
    show c * _ = c * _ * _
    rw [Nat.mul_assoc, ← Nat.pow_add]; congr 2; omega
  have e2 : 2 ^ (f.qmin - (2 * f.qmin - r)).toNat * d = FP.Core.zmag f (.fin t d r) := by
    show _ = d * _
    rw [Nat.mul_comm]; congr 2; omega
  rw [e1, Nat.mul_assoc, e2, x3, y3]
  calc f.tails * 2 ^ (K - 1) * FP.Core.unitsOf f (FP.Core.mag f y) ≤ f.tails * 2 ^ (K - 1) * (f.tails * 2 ^ (Kb - 1)) := Nat.mul_le_mul_left _ (Nat.le_of_lt l1)
    _ = f.tails * 2 ^ (f.p - 1 + (K - 1) + (Kb - 1)) := by rw [Nat.pow_add, Nat.pow_add, show 2 ^ (f.p - 1) = f.tails from rfl]; ac_rfl
    _ ≤ f.tails * 2 ^ (Ka - 1 + (-f.qmin).toNat) := Nat.mul_le_mul_left _ (Nat.pow_le_pow_right (by decide) (by omega))
    _ = f.tails * 2 ^ (Ka - 1) * 2 ^ (-f.qmin).toNat := by rw [Nat.pow_add, Nat.mul_assoc]
    _ ≤ _ := Nat.mul_le_mul_right _ l2
/-- the number has no sign -/
def posD (x : UInt64) : Prop := x.toNat < 2 ^ 63
theorem pos_of {a : UInt64} (h : FP.Core.val64 a ≠ .nan) (hs : FP.Core.sgn (FP.Core.val64 a) = false) : posD a := by
  rw [FP.Core.sgn_bits h] at hs
  exact Nat.lt_of_not_le (of_decide_eq_false hs)
theorem sgn_pos {a : UInt64} (h : FP.Core.val64 a ≠ .nan) (hp : posD a) : FP.Core.sgn (FP.Core.val64 a) = false := by
  rw [FP.Core.sgn_bits h]
  exact decide_eq_false (Nat.not_le_of_lt hp)
theorem pos_mod {a : UInt64} (hp : posD a) : a.toNat % 2 ^ 63 = a.toNat := Nat.mod_eq_of_lt hp
theorem key_pos {x : UInt64} (hp : posD x) : FP.Core.dkey x = x.toNat := by
  unfold FP.Core.dkey
  rw [if_neg (Nat.not_le_of_lt hp)]
theorem one_key : FP.Core.dkey FP.dconst1 = ((1023 * 2 ^ 52 : Nat) : Int) := by decide
theorem one_nn : FP.Core.val64 FP.dconst1 ≠ .nan := fin_1.ne_nan
theorem i2d_pos {a : Int32} (h : 0 ≤ a) : posD (FP.Core.i2d a) := by
  refine pos_of (FP.Core.i2d_fin a).ne_nan ?_
  rw [FP.Core.val64_i2d]
  show FP.Core.sgn (FP.Core.roundRatio FP.Core.b64 (decide (a.toInt < 0)) a.toInt.natAbs 1 0) = false
  rw [FP.Core.sgn_roundRatio]
  exact decide_eq_false (fun z => absurd (Int32.lt_iff_toInt_lt.mpr z) (Int32.not_lt.mpr h))
theorem div_val {a b : UInt64} (ha : FP.Core.DFin a) (hb : FP.Core.DFin b) (hz : ¬ FP.Core.DZero b) : ∃ s t c d q r, FP.Core.val64 a = .fin s c q ∧ FP.Core.val64 b = .fin t d r ∧ FP.Core.val64 (FP.Core.ddiv a b) = FP.Core.roundRatio FP.Core.b64 (s != t) c d (q - r) ∧ d ≠ 0 := by
  obtain ⟨s, c, q, e1⟩ := ha
  obtain ⟨t, d, r, e2⟩ := hb
  have hd : d ≠ 0 := fun z => hz ⟨t, r, by rw [e2, z]⟩
  refine ⟨s, t, c, d, q, r, e1, e2, ?_, hd⟩
  rw [FP.Core.val64_ddiv, e1, e2]
  show (if d = 0 then _ else _) = _
  rw [if_neg hd]
theorem shD_pos {a b : Int32} (ha : 0 ≤ a) (hb : 0 < b) : posD (shD a b) := by
  have hb0 : b ≠ 0 := fun z => by rw [z] at hb; exact absurd hb (by decide)
  obtain ⟨s, t, c, d, q, r, e1, e2, e3, _⟩ := div_val (FP.Core.i2d_fin a) (FP.Core.i2d_fin b) (fun z => FP.Core.i2d_ne_zero hb0 ((FP.Core.zero_bits2 _).mp z))
  have hs := sgn_pos (FP.Core.i2d_fin a).ne_nan (i2d_pos ha)
  have ht := sgn_pos (FP.Core.i2d_fin b).ne_nan (i2d_pos (Int32.le_of_lt hb))
  rw [e1] at hs
  rw [e2] at ht
  refine pos_of ((FP.Core.notNaN_iff _).mp (nn_sh hb0)) ?_
  show FP.Core.sgn (FP.Core.val64 (FP.Core.ddiv (FP.Core.i2d a) (FP.Core.i2d b))) = false
  rw [e3, FP.Core.sgn_roundRatio, show s = false from hs, show t = false from ht]
  rfl
theorem i2d_le16 {b : Int32} (h : b.toInt.natAbs ≤ 2 ^ 16) : (FP.Core.i2d b).toNat % 2 ^ 63 < 1040 * 2 ^ 52 := by
  have := FP.Core.fromInt_mag (FP.Core.toNat_i2d b) (j := 16) (K := 1039) h (by decide) (by decide)
  omega
theorem shD_ge {a b : Int32} (ha : 0 < a) (hb : 0 < b) (h16 : b.toInt.natAbs ≤ 2 ^ 16) : 1006 * 2 ^ 52 ≤ (shD a b).toNat := by
  have ha0 : a ≠ 0 := fun z => by rw [z] at ha; exact absurd ha (by decide)
  have hb0 : b ≠ 0 := fun z => by rw [z] at hb; exact absurd hb (by decide)
  have hp := shD_pos (Int32.le_of_lt ha) hb
  obtain ⟨h1, h2⟩ := FP.Core.i2d_big (FP.Core.int32_ne ha0)
  obtain ⟨_, h4⟩ := FP.Core.i2d_big (FP.Core.int32_ne hb0)
  have h5 := i2d_le16 h16
  have h6 := FP.Core.i2d_ne_zero hb0
  rw [← pos_mod hp]
  have e1 : (shD a b).toNat = FP.Core.div FP.Core.b64 (FP.Core.i2d a).toNat (FP.Core.i2d b).toNat := FP.Core.toNat_of64 (FP.Core.quotient_fits FP.Core.good_b64 _ _)
  have h3 := div_ge FP.Core.good_b64 (x := (FP.Core.i2d a).toNat) (y := (FP.Core.i2d b).toNat) (Ka := 1023) (Kb := 1040) (K := 1006)
    (by rw [FP.Core.mag_toNat64, FP.Core.tails_b64]; exact h1) (by rw [FP.Core.mag_toNat64, FP.Core.infBits_b64]; omega)
    (by rw [FP.Core.mag_toNat64, FP.Core.tails_b64]; exact h5) (by rw [FP.Core.mag_toNat64, FP.Core.infBits_b64]; omega) (by rw [FP.Core.mag_toNat64]; exact h6) (by decide) (by decide) (by rw [FP.Core.exps_b64]; decide) (by rw [FP.Core.p_b64, FP.Core.qmin_b64]; decide)
  rw [← e1, FP.Core.mag_toNat64, FP.Core.tails_b64] at h3
  exact h3
theorem shD_0 {b : Int32} (hb : 0 < b) : FP.dcmp (shD 0 b) FP.dconst0 = some .eq := by
  have hb0 : b ≠ 0 := fun z => by rw [z] at hb; exact absurd hb (by decide)
  obtain ⟨s, t, c, d, q, r, e1, e2, e3, hd⟩ := div_val (FP.Core.i2d_fin 0) (FP.Core.i2d_fin b) (fun z => FP.Core.i2d_ne_zero hb0 ((FP.Core.zero_bits2 _).mp z))
  have hc : c = 0 := by
    have hz : FP.Core.DZero (FP.Core.i2d 0) := (FP.Core.zero_bits2 _).mpr (by decide +kernel)
    obtain ⟨s2, q2, e4⟩ := hz
    rw [e1] at e4
    injection e4
  subst hc
  have hv := (FP.Core.notNaN_iff _).mp (nn_sh (a := 0) hb0)
  have hp := shD_pos (a := 0) (Int32.le_refl 0) hb
  have h0 : (shD 0 b).toNat = 0 := by
    rw [← pos_mod hp]
    have h9 : FP.Core.mag FP.Core.b64 (shD 0 b).toNat ≤ 0 :=
      FP.Core.mag_le FP.Core.good_b64 (n := (shD 0 b).toNat) (m := 0) (s := s != t) (A := 0) (B := d) (e := q - r) (e0 := min (q - r) FP.Core.b64.qmin) e3 (Nat.pos_of_ne_zero hd) (by omega) (by omega) (by show 0 * _ ≤ _; rw [Nat.zero_mul]; exact Nat.zero_le _)
    rw [FP.Core.mag_toNat64] at h9
    omega
  have e : shD 0 b = FP.dconst0 := UInt64.toNat_inj.mp (h0.trans (by decide))
  rw [e]
  decide +kernel
