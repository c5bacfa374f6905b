/-! the share is doubled until it is 1: it is 0 or not too small -/
theorem mul_ge {f : FP.Core.Fmt} (hf : FP.Core.Good f) {x y Ka Kb K : Nat} (hx : Ka * f.tails ≤ FP.Core.mag f x) (hxi : FP.Core.mag f x < FP.Core.infBits f) (hy : Kb * f.tails ≤ FP.Core.mag f y) (hyi : FP.Core.mag f y < FP.Core.infBits f)
    (ha : 1 ≤ Ka) (hb : 1 ≤ Kb) (hK : 1 ≤ K) (hK2 : K ≤ f.exps - 1) (h : K + (-f.qmin).toNat + 1 ≤ f.p - 1 + Ka + Kb) : K * f.tails ≤ FP.Core.mag f (FP.Core.mul f x y) := by
  obtain ⟨s, c, q, x1, x2, x3⟩ := FP.Core.fin_of_mag hf hxi
  obtain ⟨t, d, r, y1, y2, y3⟩ := FP.Core.fin_of_mag hf hyi
  obtain ⟨p1, p2, p3⟩ := FP.Core.product_units x2 y2
  have hq := FP.Core.qmin_neg hf
  have hd : FP.Core.decode f (FP.Core.mul f x y) = FP.Core.roundRatio f (s != t) (c * d) 1 (q + r) := by
    unfold FP.Core.mul
    rw [FP.Core.decode_enc hf (FP.Core.round_fits hf _), x1, y1, p1]; rfl
  refine FP.Core.mag_ge hf hd (by decide) (e0 := 2 * f.qmin) (by omega) p2 (Nat.mul_le_mul_right _ hK2) ?_
  have l1 : f.tails * 2 ^ (Ka - 1) ≤ FP.Core.unitsOf f (FP.Core.mag f x) := by rw [← FP.Core.unitsOf_start ha]; exact FP.Core.unitsOf_le_iff.mpr hx
  have l2 : f.tails * 2 ^ (Kb - 1) ≤ FP.Core.unitsOf f (FP.Core.mag f y) := by rw [← FP.Core.unitsOf_start hb]; exact FP.Core.unitsOf_le_iff.mpr hy
  rw [p3, x3, y3, FP.Core.unitsOf_start hK, Nat.mul_one]
  calc f.tails * 2 ^ (K - 1) * 2 ^ (f.qmin - 2 * f.qmin).toNat = f.tails * 2 ^ (K - 1 + (f.qmin - 2 * f.qmin).toNat) := by rw [Nat.pow_add, Nat.mul_assoc]
    _ ≤ f.tails * 2 ^ (f.p - 1 + (Ka - 1) + (Kb - 1)) := Nat.mul_le_mul_left _ (Nat.pow_le_pow_right (by decide) (by omega))
    _ = (f.tails * 2 ^ (Ka - 1)) * (f.tails * 2 ^ (Kb - 1)) := by rw [Nat.pow_add, Nat.pow_add, show 2 ^ (f.p - 1) = f.tails from rfl]; ac_rfl
    _ ≤ _ := Nat.mul_le_mul l1 l2
theorem div_ge {f : FP.Core.Fmt} (hf : FP.Core.Good f) {x y Ka Kb K : Nat} (hx : Ka * f.tails ≤ FP.Core.mag f x) (hxi : FP.Core.mag f x < FP.Core.infBits f) (hy : FP.Core.mag f y < Kb * f.tails) (hyi : FP.Core.mag f y < FP.Core.infBits f) (hy0 : FP.Core.mag f y ≠ 0)
    (ha : 1 ≤ Ka) (hK : 1 ≤ K) (hK2 : K ≤ f.exps - 1) (h : f.p - 1 + K + Kb ≤ Ka + (-f.qmin).toNat + 1) : K * f.tails ≤ FP.Core.mag f (FP.Core.div f x y) := by
  obtain ⟨s, c, q, x1, x2, x3⟩ := FP.Core.fin_of_mag hf hxi
  obtain ⟨t, d, r, y1, y2, y3⟩ := FP.Core.fin_of_mag hf hyi
  have hq := FP.Core.qmin_neg hf
  have hd0 : d ≠ 0 := by
    rintro rfl
    have h1 : FP.Core.zmag f (.fin t 0 r) = 0 := Nat.zero_mul _
    rw [y3] at h1
    exact hy0 (FP.Core.unitsOf_eq_zero.mp h1)
  have hd : FP.Core.decode f (FP.Core.div f x y) = FP.Core.roundRatio f (s != t) c d (q - r) := by
    unfold FP.Core.div
    rw [FP.Core.decode_enc hf (FP.Core.quotient_fits hf _ _), x1, y1]
    simp only [FP.Core.quotient, if_neg hd0]
  have hx1 := x2.2.1
  have hy1 := y2.2.1
  refine FP.Core.mag_ge hf hd (by omega) (e0 := 2 * f.qmin - r) (by omega) (by omega) (Nat.mul_le_mul_right _ hK2) ?_
  obtain ⟨k1, l1⟩ := FP.Core.units_lt_start hy
  have l2 : f.tails * 2 ^ (Ka - 1) ≤ FP.Core.unitsOf f (FP.Core.mag f x) := by rw [← FP.Core.unitsOf_start ha]; exact FP.Core.unitsOf_le_iff.mpr hx
  rw [FP.Core.unitsOf_start hK]
  have e1 : FP.Core.inUnits c (q - r) (2 * f.qmin - r) = FP.Core.zmag f (.fin s c q) * 2 ^ (-f.qmin).toNat := by
    show c * _ = c * _ * _
    rw [Nat.mul_assoc, ← Nat.pow_add]; congr 2; omega
  have e2 : 2 ^ (f.qmin - (2 * f.qmin - r)).toNat * d = FP.Core.zmag f (.fin t d r) := by
    show _ = d * _
    rw [Nat.mul_comm]; congr 2; omega
  rw [e1, Nat.mul_assoc, e2, x3, y3]
  calc f.tails * 2 ^ (K - 1) * FP.Core.unitsOf f (FP.Core.mag f y) ≤ f.tails * 2 ^ (K - 1) * (f.tails * 2 ^ (Kb - 1)) := Nat.mul_le_mul_left _ (Nat.le_of_lt l1)
    _ = f.tails * 2 ^ (f.p - 1 + (K - 1) + (Kb - 1)) := by rw [Nat.pow_add, Nat.pow_add, show 2 ^ (f.p - 1) = f.tails from rfl]; ac_rfl
    _ ≤ f.tails * 2 ^ (Ka - 1 + (-f.qmin).toNat) := Nat.mul_le_mul_left _ (Nat.pow_le_pow_right (by decide) (by omega))
    _ = f.tails * 2 ^ (Ka - 1) * 2 ^ (-f.qmin).toNat := by rw [Nat.pow_add, Nat.mul_assoc]
    _ ≤ _ := Nat.mul_le_mul_right _ l2
/-- the number has no sign -/
def posD (x : UInt64) : Prop := x.toNat < 2 ^ 63
theorem pos_of {a : UInt64} (h : FP.Core.val64 a ≠ .nan) (hs : FP.Core.sgn (FP.Core.val64 a) = false) : posD a := by
  rw [FP.Core.sgn_bits h] at hs
  exact Nat.lt_of_not_le (of_decide_eq_false hs)
theorem sgn_pos {a : UInt64} (h : FP.Core.val64 a ≠ .nan) (hp : posD a) : FP.Core.sgn (FP.Core.val64 a) = false := by
  rw [FP.Core.sgn_bits h]
  exact decide_eq_false (Nat.not_le_of_lt hp)
theorem pos_mod {a : UInt64} (hp : posD a) : a.toNat % 2 ^ 63 = a.toNat := Nat.mod_eq_of_lt hp
theorem dbl_ge {x : UInt64} {K : Nat} (hp : posD x) (hK : 1 ≤ K) (h1 : K * 2 ^ 52 ≤ x.toNat) (h2 : x.toNat < 1023 * 2 ^ 52) : posD (FP.Core.dmul x 4611686018427387904) ∧ (K + 1) * 2 ^ 52 ≤ (FP.Core.dmul x 4611686018427387904).toNat := by
  have hm := pos_mod hp
  have hfx : FP.Core.DFin x := (FP.Core.fin_bits x).mpr (by rw [hm]; omega)
  have hnn : FP.Core.dIsNaN (FP.Core.dmul x 4611686018427387904) = false := nn_dbl ((FP.Core.notNaN_iff x).mpr hfx.ne_nan)
  have hv := (FP.Core.notNaN_iff _).mp hnn
  have hp2 : posD (FP.Core.dmul x 4611686018427387904) := by
    refine pos_of hv ?_
    obtain ⟨s, c, q, e⟩ := id hfx
    obtain ⟨t, d, r, e2⟩ := id fin_2
    have hs := sgn_pos hfx.ne_nan hp
    have ht := sgn_pos (a := 4611686018427387904) fin_2.ne_nan (by show (4611686018427387904 : Nat) < 2 ^ 63; decide)
    rw [e] at hs
    rw [e2] at ht
    rw [FP.Core.val64_dmul, e, e2]
    show FP.Core.sgn (FP.Core.roundRatio FP.Core.b64 (s != t) (c * d) 1 (q + r)) = false
    rw [FP.Core.sgn_roundRatio, show s = false from hs, show t = false from ht]
    rfl
  refine ⟨hp2, ?_⟩
  rw [← pos_mod hp2]
  have e1 : (FP.Core.dmul x 4611686018427387904).toNat = FP.Core.mul FP.Core.b64 x.toNat (4611686018427387904 : UInt64).toNat := FP.Core.toNat_of64 (FP.Core.round_fits FP.Core.good_b64 _)
  have e2 : (4611686018427387904 : UInt64).toNat = 1024 * 2 ^ 52 := by decide
  have h3 := mul_ge FP.Core.good_b64 (x := x.toNat) (y := (4611686018427387904 : UInt64).toNat) (Ka := K) (Kb := 1024) (K := K + 1)
    (by rw [FP.Core.mag_toNat64, FP.Core.tails_b64, hm]; exact h1) (by rw [FP.Core.mag_toNat64, FP.Core.infBits_b64, hm]; omega)
    (by rw [FP.Core.mag_toNat64, FP.Core.tails_b64, e2]; decide) (by rw [FP.Core.mag_toNat64, FP.Core.infBits_b64, e2]; decide) hK (by decide) (by omega) (by rw [FP.Core.exps_b64]; omega) (by rw [FP.Core.p_b64, FP.Core.qmin_b64]; omega)
  rw [← e1, FP.Core.mag_toNat64, FP.Core.tails_b64] at h3
  exact h3
theorem key_pos {x : UInt64} (hp : posD x) : FP.Core.dkey x = x.toNat := by
  unfold FP.Core.dkey
  rw [if_neg (Nat.not_le_of_lt hp)]
theorem one_key : FP.Core.dkey FP.dconst1 = ((1023 * 2 ^ 52 : Nat) : Int) := by decide
theorem one_nn : FP.Core.val64 FP.dconst1 ≠ .nan := fin_1.ne_nan
theorem cG_ge {x : UInt64} (h : FP.Core.val64 x ≠ .nan) (hp : posD x) (h1 : 1023 * 2 ^ 52 ≤ x.toNat) : 0 ≤ cG x := by
  have hk := key_pos hp
  unfold cG
  rw [show FP.dcmp x FP.dconst1 = FP.Core.dcmp x FP.dconst1 from rfl, FP.Core.dcmp_key h one_nn, hk, one_key]
  by_cases e : x.toNat = 1023 * 2 ^ 52
  · rw [e]; decide
  · have : compare (x.toNat : Int) ((1023 * 2 ^ 52 : Nat) : Int) = .gt := by
      rw [Int.compare_eq_gt]
      omega
    rw [this]; decide
theorem bs_up : ∀ (n K : Nat) (e : Int64) (x : UInt64), FP.Core.val64 x ≠ .nan → posD x → 1 ≤ K → K * 2 ^ 52 ≤ x.toNat → 1023 ≤ K + n → 0 ≤ cG (bsF n e x).2 := by
  intro n
  induction n with
  | zero => intro K e x hv hp hK h1 h2; exact cG_ge hv hp (Nat.le_trans (Nat.mul_le_mul_right _ h2) h1)
  | succ n ih =>
    intro K e x hv hp hK h1 h2
    by_cases h : 0 ≤ cG x
    · rw [bsF_y h]; exact h
    · have hlt : x.toNat < 1023 * 2 ^ 52 := Nat.lt_of_not_le fun z => h (cG_ge hv hp z)
      obtain ⟨hp2, hge⟩ := dbl_ge hp hK h1 hlt
      rw [bsF_n h]
      exact ih (K + 1) (e - 1) _ ((FP.Core.notNaN_iff _).mp (nn_dbl ((FP.Core.notNaN_iff x).mpr hv))) hp2 (by omega) hge (by omega)
theorem i2d_pos {a : Int32} (h : 0 ≤ a) : posD (FP.Core.i2d a) := by
  refine pos_of (FP.Core.i2d_fin a).ne_nan ?_
  rw [FP.Core.val64_i2d]
  show FP.Core.sgn (FP.Core.roundRatio FP.Core.b64 (decide (a.toInt < 0)) a.toInt.natAbs 1 0) = false
  rw [FP.Core.sgn_roundRatio]
  exact decide_eq_false (fun z => absurd (Int32.lt_iff_toInt_lt.mpr z) (Int32.not_lt.mpr h))
theorem div_val {a b : UInt64} (ha : FP.Core.DFin a) (hb : FP.Core.DFin b) (hz : ¬ FP.Core.DZero b) : ∃ s t c d q r, FP.Core.val64 a = .fin s c q ∧ FP.Core.val64 b = .fin t d r ∧ FP.Core.val64 (FP.Core.ddiv a b) = FP.Core.roundRatio FP.Core.b64 (s != t) c d (q - r) ∧ d ≠ 0 := by
  obtain ⟨s, c, q, e1⟩ := ha
  obtain ⟨t, d, r, e2⟩ := hb
  have hd : d ≠ 0 := fun z => hz ⟨t, r, by rw [e2, z]⟩
  refine ⟨s, t, c, d, q, r, e1, e2, ?_, hd⟩
  rw [FP.Core.val64_ddiv, e1, e2]
  show (if d = 0 then _ else _) = _
  rw [if_neg hd]
theorem shD_pos {a b : Int32} (ha : 0 ≤ a) (hb : 0 < b) : posD (shD a b) := by
  have hb0 : b ≠ 0 := fun z => by rw [z] at hb; exact absurd hb (by decide)
  obtain ⟨s, t, c, d, q, r, e1, e2, e3, _⟩ := div_val (FP.Core.i2d_fin a) (FP.Core.i2d_fin b) (fun z => FP.Core.i2d_ne_zero hb0 ((FP.Core.zero_bits2 _).mp z))
  have hs := sgn_pos (FP.Core.i2d_fin a).ne_nan (i2d_pos ha)
  have ht := sgn_pos (FP.Core.i2d_fin b).ne_nan (i2d_pos (Int32.le_of_lt hb))
  rw [e1] at hs
  rw [e2] at ht
  refine pos_of ((FP.Core.notNaN_iff _).mp (nn_sh hb0)) ?_
  show FP.Core.sgn (FP.Core.val64 (FP.Core.ddiv (FP.Core.i2d a) (FP.Core.i2d b))) = false
  rw [e3, FP.Core.sgn_roundRatio, show s = false from hs, show t = false from ht]
  rfl
theorem i2d_le16 {b : Int32} (h : b.toInt.natAbs ≤ 2 ^ 16) : (FP.Core.i2d b).toNat % 2 ^ 63 < 1040 * 2 ^ 52 := by
  have := FP.Core.fromInt_mag (FP.Core.toNat_i2d b) (j := 16) (K := 1039) h (by decide) (by decide)
  omega
theorem shD_ge {a b : Int32} (ha : 0 < a) (hb : 0 < b) (h16 : b.toInt.natAbs ≤ 2 ^ 16) : 1006 * 2 ^ 52 ≤ (shD a b).toNat := by
  have ha0 : a ≠ 0 := fun z => by rw [z] at ha; exact absurd ha (by decide)
  have hb0 : b ≠ 0 := fun z => by rw [z] at hb; exact absurd hb (by decide)
  have hp := shD_pos (Int32.le_of_lt ha) hb
  obtain ⟨h1, h2⟩ := FP.Core.i2d_big (FP.Core.int32_ne ha0)
  obtain ⟨_, h4⟩ := FP.Core.i2d_big (FP.Core.int32_ne hb0)
  have h5 := i2d_le16 h16
  have h6 := FP.Core.i2d_ne_zero hb0
  rw [← pos_mod hp]
  have e1 : (shD a b).toNat = FP.Core.div FP.Core.b64 (FP.Core.i2d a).toNat (FP.Core.i2d b).toNat := FP.Core.toNat_of64 (FP.Core.quotient_fits FP.Core.good_b64 _ _)
  have h3 := div_ge FP.Core.good_b64 (x := (FP.Core.i2d a).toNat) (y := (FP.Core.i2d b).toNat) (Ka := 1023) (Kb := 1040) (K := 1006)
    (by rw [FP.Core.mag_toNat64, FP.Core.tails_b64]; exact h1) (by rw [FP.Core.mag_toNat64, FP.Core.infBits_b64]; omega)
    (by rw [FP.Core.mag_toNat64, FP.Core.tails_b64]; exact h5) (by rw [FP.Core.mag_toNat64, FP.Core.infBits_b64]; omega) (by rw [FP.Core.mag_toNat64]; exact h6) (by decide) (by decide) (by rw [FP.Core.exps_b64]; decide) (by rw [FP.Core.p_b64, FP.Core.qmin_b64]; decide)
  rw [← e1, FP.Core.mag_toNat64, FP.Core.tails_b64] at h3
  exact h3
theorem shD_0 {b : Int32} (hb : 0 < b) : FP.dcmp (shD 0 b) FP.dconst0 = some .eq := by
  have hb0 : b ≠ 0 := fun z => by rw [z] at hb; exact absurd hb (by decide)
  obtain ⟨s, t, c, d, q, r, e1, e2, e3, hd⟩ := div_val (FP.Core.i2d_fin 0) (FP.Core.i2d_fin b) (fun z => FP.Core.i2d_ne_zero hb0 ((FP.Core.zero_bits2 _).mp z))
  have hc : c = 0 := by
    have hz : FP.Core.DZero (FP.Core.i2d 0) := (FP.Core.zero_bits2 _).mpr (by decide +kernel)
    obtain ⟨s2, q2, e4⟩ := hz
    rw [e1] at e4
    injection e4
  subst hc
  have hv := (FP.Core.notNaN_iff _).mp (nn_sh (a := 0) hb0)
  have hp := shD_pos (a := 0) (Int32.le_refl 0) hb
  have h0 : (shD 0 b).toNat = 0 := by
    rw [← pos_mod hp]
    have h9 : FP.Core.mag FP.Core.b64 (shD 0 b).toNat ≤ 0 :=
      FP.Core.mag_le FP.Core.good_b64 (n := (shD 0 b).toNat) (m := 0) (s := s != t) (A := 0) (B := d) (e := q - r) (e0 := min (q - r) FP.Core.b64.qmin) e3 (Nat.pos_of_ne_zero hd) (by omega) (by omega) (by show 0 * _ ≤ _; rw [Nat.zero_mul]; exact Nat.zero_le _)
    rw [FP.Core.mag_toNat64] at h9
    omega
  have e : shD 0 b = FP.dconst0 := UInt64.toNat_inj.mp (h0.trans (by decide))
  rw [e]
  decide +kernel
/-- the share of so few -/
theorem use_ok {G T O : Nat} (h1 : T + O ≤ G) (h2 : G ≤ 65536) : shF (nI G) (nI T) (nI O) = usF (nI G) (nI T) (nI O) ∧ bOK (usF (nI G) (nI T) (nI O)) ∧ bcF (shF (nI G) (nI T) (nI O)) = bmF (usF (nI G) (nI T) (nI O)) := by
  by_cases h0 : G = 0
  · subst h0
    have e1 : shF (nI 0) (nI T) (nI O) = FP.dconst1 := by unfold shF; rw [if_neg (by decide)]
    have e2 : usF (nI 0) (nI T) (nI O) = FP.dconst1 := by unfold usF; rw [if_pos (by decide)]
    rw [e1, e2]
    refine ⟨rfl, Or.inr ?_, ?_⟩
    · have hc : 0 ≤ cG FP.dconst1 := by decide +kernel
      rw [bsF_y hc]; exact hc
    · unfold bcF bmF
      rw [if_pos (by decide +kernel), if_neg (by decide +kernel)]
  · have hg : 0 < nI G := nI_lt (a := 0) (by omega) (by omega)
    have hg0 : nI G ≠ 0 := fun z => h0 ((nI_e0 (by omega)).mp z)
    have ea : nI G - nI T - nI O = nI (G - T - O) := by rw [pk_sub (by omega), pk_sub (by omega)]
    have e1 : shF (nI G) (nI T) (nI O) = shD (nI (G - T - O)) (nI G) := by unfold shF; rw [if_pos hg, ea]
    have e2 : usF (nI G) (nI T) (nI O) = shD (nI (G - T - O)) (nI G) := by unfold usF; rw [if_neg hg0, ea]
    rw [e1, e2]
    by_cases hz : G - T - O = 0
    · have hx := shD_0 hg
      rw [hz]
      refine ⟨rfl, Or.inl ?_, ?_⟩
      · show Op.cmpValue (FP.dcmp (shD 0 (nI G)) FP.dconst0) CmpOp.l = 0
        rw [hx]; rfl
      · unfold bcF bmF
        show (if 0 < Op.cmpValue (FP.dcmp (shD 0 (nI G)) FP.dconst0) CmpOp.g then _ else _) = (if Op.cmpValue (FP.dcmp (shD 0 (nI G)) FP.dconst0) CmpOp.l = 0 then _ else _)
        rw [hx, if_neg (by decide), if_pos (by decide)]
    · have ha : 0 < nI (G - T - O) := nI_lt (a := 0) (by omega) (by omega)
      have hp := shD_pos (Int32.le_of_lt ha) hg
      have hv := (FP.Core.notNaN_iff _).mp (nn_sh (a := nI (G - T - O)) hg0)
      have h16 : (nI G).toInt.natAbs ≤ 2 ^ 16 := by rw [nI_toInt (by omega)]; omega
      have hge := shD_ge ha hg h16
      refine ⟨rfl, Or.inr (bs_up 1022 1006 1023 _ hv hp (by decide) hge (by decide)), ?_⟩
      have hgt : FP.dcmp (shD (nI (G - T - O)) (nI G)) FP.dconst0 = some .gt := by
        refine (FP.Core.dcmp_gt_key hv (by decide +kernel)).mpr ?_
        show FP.Core.dkey FP.dconst0 < FP.Core.dkey (shD (nI (G - T - O)) (nI G))
        rw [key_pos hp, show FP.Core.dkey FP.dconst0 = 0 by decide]
        omega
      unfold bcF bmF
      rw [hgt, if_pos (by decide), if_neg (by decide)]
