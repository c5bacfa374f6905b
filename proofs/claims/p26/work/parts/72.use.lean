/-! a share is from 0 to 1 -/
theorem div_le1 {x y : Nat} (hx : FP.Core.mag FP.Core.b64 x ≤ FP.Core.mag FP.Core.b64 y) (hyi : FP.Core.mag FP.Core.b64 y < FP.Core.infBits FP.Core.b64) (hy0 : FP.Core.mag FP.Core.b64 y ≠ 0) : FP.Core.mag FP.Core.b64 (FP.Core.div FP.Core.b64 x y) ≤ 1023 * FP.Core.b64.tails := by
  have hf := FP.Core.good_b64
  obtain ⟨s, c, q, x1, x2, x3⟩ := FP.Core.fin_of_mag hf (Nat.lt_of_le_of_lt hx hyi)
  obtain ⟨t, d, r, y1, y2, y3⟩ := FP.Core.fin_of_mag hf hyi
  have hq := FP.Core.qmin_neg hf
  have hd0 : d ≠ 0 := by
    rintro rfl
    have h1 : FP.Core.zmag FP.Core.b64 (.fin t 0 r) = 0 := Nat.zero_mul _
    rw [y3] at h1
    exact hy0 (FP.Core.unitsOf_eq_zero.mp h1)
  have hd : FP.Core.decode FP.Core.b64 (FP.Core.div FP.Core.b64 x y) = FP.Core.roundRatio FP.Core.b64 (s != t) c d (q - r) := by
    unfold FP.Core.div
    rw [FP.Core.decode_enc hf (FP.Core.quotient_fits hf _ _), x1, y1]
    simp only [FP.Core.quotient, if_neg hd0]
  have hx1 := x2.2.1
  have hy1 := y2.2.1
  refine FP.Core.mag_le hf hd (by omega) (e0 := 2 * FP.Core.b64.qmin - r) (by omega) (by omega) ?_
  rw [FP.Core.unitsOf_start (by decide)]
  have e1 : FP.Core.inUnits c (q - r) (2 * FP.Core.b64.qmin - r) = FP.Core.zmag FP.Core.b64 (.fin s c q) * 2 ^ (-FP.Core.b64.qmin).toNat := by
    show c * _ = c * _ * _
    rw [Nat.mul_assoc, ← Nat.pow_add]; congr 2; omega
  have e2 : 2 ^ (FP.Core.b64.qmin - (2 * FP.Core.b64.qmin - r)).toNat * d = FP.Core.zmag FP.Core.b64 (.fin t d r) := by
    show _ = d * _
    rw [Nat.mul_comm]; congr 2; omega
  rw [e1, Nat.mul_assoc, e2, x3, y3]
  have e3 : FP.Core.b64.tails * 2 ^ (1023 - 1) = 2 ^ (-FP.Core.b64.qmin).toNat := by
    rw [FP.Core.tails_b64, FP.Core.qmin_b64, ← Nat.pow_add]
    rfl
  rw [e3, Nat.mul_comm]
  exact Nat.mul_le_mul_left _ (FP.Core.unitsOf_le_iff.mpr hx)
theorem i2d_le {a b : Nat} (h : a ≤ b) (hb : b < 2 ^ 31) : (FP.Core.i2d (nI a)).toNat ≤ (FP.Core.i2d (nI b)).toNat := by
  have ha0 : (0 : Int32) ≤ nI a := (nI_leI (a := 0) (by omega) (by omega)).mpr (Nat.zero_le a)
  have hb0 : (0 : Int32) ≤ nI b := (nI_leI (a := 0) (by omega) (by omega)).mpr (Nat.zero_le b)
  have h1 := FP.Core.dcmp_int (FP.Core.i2d_int (nI a)) (FP.Core.i2d_int (nI b))
  obtain ⟨_, _, m3⟩ := FP.Core.mono_bits (FP.Core.i2d_fin (nI a)).ne_nan (FP.Core.i2d_fin (nI b)).ne_nan (i2d_pos ha0) (i2d_pos hb0)
  refine Nat.le_of_not_lt fun hlt => ?_
  have h2 := m3.mpr hlt
  rw [h2] at h1
  have h3 := Option.some.inj h1
  rw [nI_toInt (by omega), nI_toInt hb] at h3
  have h4 := Int.compare_eq_gt.mp h3.symm
  omega
theorem shD_le1 {a b : Nat} (h : a ≤ b) (h0 : 0 < b) (hb : b < 2 ^ 31) : (shD (nI a) (nI b)).toNat ≤ 1023 * 2 ^ 52 := by
  have ha0 : (0 : Int32) ≤ nI a := (nI_leI (a := 0) (by omega) (by omega)).mpr (Nat.zero_le a)
  have hb0 : (0 : Int32) < nI b := nI_lt (a := 0) h0 hb
  have hne : nI b ≠ 0 := fun z => by rw [z] at hb0; exact absurd hb0 (by decide)
  have hp := shD_pos ha0 hb0
  have e1 : (shD (nI a) (nI b)).toNat = FP.Core.div FP.Core.b64 (FP.Core.i2d (nI a)).toNat (FP.Core.i2d (nI b)).toNat := FP.Core.toNat_of64 (FP.Core.quotient_fits FP.Core.good_b64 _ _)
  have hpa := pos_mod (i2d_pos ha0)
  have hpb := pos_mod (i2d_pos (Int32.le_of_lt hb0))
  have hle := i2d_le h hb
  obtain ⟨_, h5⟩ := FP.Core.i2d_big (FP.Core.int32_ne hne)
  have h6 := FP.Core.i2d_ne_zero hne
  have h3 := div_le1 (x := (FP.Core.i2d (nI a)).toNat) (y := (FP.Core.i2d (nI b)).toNat)
    (by rw [FP.Core.mag_toNat64, FP.Core.mag_toNat64, hpa, hpb]; exact hle) (by rw [FP.Core.mag_toNat64, FP.Core.infBits_b64]; omega) (by rw [FP.Core.mag_toNat64]; exact h6)
  rw [← e1, FP.Core.mag_toNat64, FP.Core.tails_b64, pos_mod hp] at h3
  exact h3
theorem shF_law {G T O : Nat} (h1 : T + O ≤ G) (h2 : G ≤ 100000) : posD (shF (nI G) (nI T) (nI O)) ∧ (shF (nI G) (nI T) (nI O)).toNat ≤ 1023 * 2 ^ 52 := by
  by_cases h0 : G = 0
  · subst h0
    have e1 : shF (nI 0) (nI T) (nI O) = FP.dconst1 := by unfold shF; rw [if_neg (by decide)]
    rw [e1]
    exact ⟨by show (FP.dconst1).toNat < 2 ^ 63; decide, by decide⟩
  · have hg : 0 < nI G := nI_lt (a := 0) (by omega) (by omega)
    have ea : nI G - nI T - nI O = nI (G - T - O) := by rw [pk_sub (by omega), pk_sub (by omega)]
    have e1 : shF (nI G) (nI T) (nI O) = shD (nI (G - T - O)) (nI G) := by unfold shF; rw [if_pos hg, ea]
    rw [e1]
    exact ⟨shD_pos ((nI_leI (a := 0) (by omega) (by omega)).mpr (Nat.zero_le _)) hg, shD_le1 (by omega) (by omega) (by omega)⟩
theorem use_ge {go tn lo : Int32} {G T O : Nat} (e1 : go = nI G) (e2 : tn = nI T) (e3 : lo = nI O) (h1 : T + O ≤ G) (h2 : G ≤ 100000) : ¬ Op.cmpValue (FP.dcmp (shF go tn lo) FP.dconst0) CmpOp.l < 0 := by
  subst e1 e2 e3
  obtain ⟨hp, _⟩ := shF_law h1 h2
  obtain ⟨m1, m2, m3⟩ := FP.Core.mono_bits ((FP.Core.notNaN_iff _).mp (nn_shF (nI G) (nI T) (nI O))) (b := FP.dconst0) (by decide +kernel) hp (by decide)
  have hz : (FP.dconst0).toNat = 0 := by decide
  rw [hz] at m1 m2 m3
  rcases Nat.eq_zero_or_pos (shF (nI G) (nI T) (nI O)).toNat with h | h
  · rw [show FP.dcmp (shF (nI G) (nI T) (nI O)) FP.dconst0 = some .eq from m2.mpr h]; decide
  · rw [show FP.dcmp (shF (nI G) (nI T) (nI O)) FP.dconst0 = some .gt from m3.mpr h]; decide
theorem use_le {go tn lo : Int32} {G T O : Nat} (e1 : go = nI G) (e2 : tn = nI T) (e3 : lo = nI O) (h1 : T + O ≤ G) (h2 : G ≤ 100000) : ¬ 0 < Op.cmpValue (FP.dcmp (shF go tn lo) FP.dconst1) CmpOp.g := by
  subst e1 e2 e3
  obtain ⟨hp, hl⟩ := shF_law h1 h2
  obtain ⟨m1, m2, m3⟩ := FP.Core.mono_bits ((FP.Core.notNaN_iff _).mp (nn_shF (nI G) (nI T) (nI O))) (b := FP.dconst1) one_nn hp (by decide)
  have hz : (FP.dconst1).toNat = 1023 * 2 ^ 52 := by decide
  rw [hz] at m1 m2 m3
  rcases Nat.eq_or_lt_of_le hl with h | h
  · rw [show FP.dcmp (shF (nI G) (nI T) (nI O)) FP.dconst1 = some .eq from m2.mpr h]; decide
  · rw [show FP.dcmp (shF (nI G) (nI T) (nI O)) FP.dconst1 = some .lt from m1.mpr h]; decide
