/-! doubles: what is no NaN; the share; its bits -/
theorem nn64 {r : UInt64} (h : FP.Core.dIsNaN r = false) : vf_n64 r := by
  unfold vf_n64
  have h1 := (FP.Core.ne_nan r).mp ((FP.Core.notNaN_iff r).mp h)
  rw [UInt64.le_iff_toNat_le, FP.Core.mask_toNat]
  exact h1
theorem fin_1 : FP.Core.DFin FP.dconst1 := (FP.Core.fin_bits _).mpr (by decide)
theorem fin_2 : FP.Core.DFin 4611686018427387904 := (FP.Core.fin_bits _).mpr (by decide)
theorem nz_2 : ¬ FP.Core.DZero 4611686018427387904 := fun h => absurd ((FP.Core.zero_bits2 _).mp h) (by decide)
theorem fin_c : FP.Core.DFin 4841369599423283200 := (FP.Core.fin_bits _).mpr (by decide)
theorem nz_c : ¬ FP.Core.DZero 4841369599423283200 := fun h => absurd ((FP.Core.zero_bits2 _).mp h) (by decide)
theorem nn_1 : FP.Core.dIsNaN FP.dconst1 = false := by decide +kernel
/-- the share of what helped -/
def shD (a b : Int32) : UInt64 := FP.ddiv (FP.i2d a) (FP.i2d b)
theorem nn_i2d (a : Int32) : FP.Core.dIsNaN (FP.i2d a) = false := (FP.Core.notNaN_iff _).mpr (FP.Core.i2d_fin a).ne_nan
theorem nn_sh {a b : Int32} (h : b ≠ 0) : FP.Core.dIsNaN (FP.ddiv (FP.i2d a) (FP.i2d b)) = false :=
  FP.Core.ddiv_out (nn_i2d a) (FP.Core.i2d_fin b) (fun z => FP.Core.i2d_ne_zero h ((FP.Core.zero_bits2 _).mp z))
theorem nn_dbl {x : UInt64} (h : FP.Core.dIsNaN x = false) : FP.Core.dIsNaN (FP.dmul x 4611686018427387904) = false := FP.Core.dmul_out' h fin_2 nz_2
theorem nn_s1 {x : UInt64} (h : FP.Core.dIsNaN x = false) : FP.Core.dIsNaN (FP.dsub x FP.dconst1) = false := FP.Core.dsub_out h fin_1
theorem nn_mc {x : UInt64} (h : FP.Core.dIsNaN x = false) : FP.Core.dIsNaN (FP.dmul x 4841369599423283200) = false := FP.Core.dmul_out' h fin_c nz_c
def shF (go tn lo : Int32) : UInt64 := if 0 < go then shD (go - tn - lo) go else FP.dconst1
def usF (go tn lo : Int32) : UInt64 := if go = 0 then FP.dconst1 else shD (go - tn - lo) go
theorem nn_shF (go tn lo : Int32) : FP.Core.dIsNaN (shF go tn lo) = false := by
  unfold shF
  split
  · next h => exact nn_sh (fun z => by rw [z] at h; exact absurd h (by decide))
  · exact nn_1
theorem nn_usF (go tn lo : Int32) : FP.Core.dIsNaN (usF go tn lo) = false := by
  unfold usF
  split
  · exact nn_1
  · next h => exact nn_sh h
/-- doubled until it is 1 at least: the exponent, the number -/
def cG (x : UInt64) : Int32 := Op.cmpValue (FP.dcmp x FP.dconst1) CmpOp.g
def bsF : Nat → Int64 → UInt64 → Int64 × UInt64
  | 0, e, x => (e, x)
  | n + 1, e, x => if 0 ≤ cG x then (e, x) else bsF n (e - 1) (FP.dmul x 4611686018427387904)
theorem bsF_y {n : Nat} {e : Int64} {x : UInt64} (h : 0 ≤ cG x) : bsF n e x = (e, x) := by
  cases n with
  | zero => rfl
  | succ n => rw [bsF, if_pos h]
theorem bsF_n {n : Nat} {e : Int64} {x : UInt64} (h : ¬ 0 ≤ cG x) : bsF (n + 1) e x = bsF n (e - 1) (FP.dmul x 4611686018427387904) := by rw [bsF, if_neg h]
def tlF (q : Int64 × UInt64) : Int64 := q.1 * 4503599627370496 + FP.d2l (FP.dmul (FP.dsub q.2 FP.dconst1) 4841369599423283200)
def bcF (x : UInt64) : Int64 := if 0 < Op.cmpValue (FP.dcmp x FP.dconst0) CmpOp.g then tlF (bsF 1022 1023 x) else 0
def bmF (x : UInt64) : Int64 := if Op.cmpValue (FP.dcmp x FP.dconst0) CmpOp.l = 0 then 0 else tlF (bsF 1022 1023 x)
theorem sh52 (x : Int64) : x <<< ((52 : Int32).toInt64 &&& 63) = x * 4503599627370496 := by
  apply Int64.toBitVec_inj.mp
  rw [show ((52 : Int32).toInt64 &&& 63) = (52 : Int64) from by decide]
  show x.toBitVec <<< ((52 : Int64).toBitVec.smod 64) = x.toBitVec * 4503599627370496#64
  rw [show ((52 : Int64).toBitVec.smod 64) = 52#64 from by decide]
  rw [BitVec.shiftLeft_eq', BitVec.shiftLeft_eq_mul_twoPow]
  rfl
