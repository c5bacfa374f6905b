/-! the digest, as the reference computes it -/
def bOK (x : UInt64) : Prop := Op.cmpValue (FP.dcmp x FP.dconst0) CmpOp.l = 0 ∨ 0 ≤ cG (bsF 1022 1023 x).2
def knM (va : Nat → Int32) (K b : Nat) : Int32 := if K.testBit b = true then va b else -1
def hsV (nb : Nat) (va : Nat → Int32) (L : List Nat) : Nat → Nat → Int64 → Int64
  | 0, _, h => h
  | k + 1, i, h => hsV nb va L k (i + 1) (31 * (31 * h + (nI (L.getD i 0)).toInt64) + (vlM nb va (L.getD i 0)).toInt64)
def drA (nb : Nat) (q : MR) (h : Int64) : Int64 := hsN (fun j => numM nb q j) 9 0 h
def drB (nb : Nat) (va : Nat → Int32) (q : MR) (h : Int64) : Int64 := hsN (fun b => knM va q.2.1 b) nb 0 (drA nb q h)
def drC (nb : Nat) (va : Nat → Int32) (q : MR) (h : Int64) : Int64 := hsV nb va q.2.2.2.2.2 q.2.2.2.2.2.length 0 (drB nb va q h)
def drM (nb : Nat) (va : Nat → Int32) (q : MR) (h : Int64) : Int64 := 31 * (31 * (31 * (31 * (31 * (31 * (31 * drC nb va q h + (gtv (mskM nb 100) q).toInt64) + (rnkM (getM (mskM nb 100) q.2)).toInt64) + (nhS (hpM nb q) (nhN 0) 0).toInt64) + (ndM nb 5 false 100 0 q.2).toInt64) + (ndM nb 5 true 100 0 q.2).toInt64) + (nI (pc (alnM (redW q.2.2.2.2.2)))).toInt64) + bmF (usF q.2.2.1 q.2.2.2.1 q.2.2.2.2.1)
def dmA (nb : Nat) (va : Nat → Int32) (se : Int32) (rc : Nat → MR) (ke : Nat) : Int64 := hsN (fun j => ctM nb va se rc ke j) 6 0 3253
def dmB (nb : Nat) (va : Nat → Int32) (se : Int32) (rc : Nat → MR) (ke : Nat) : Int64 := hsN va nb 0 (dmA nb va se rc ke)
def dmC (nb : Nat) (va : Nat → Int32) (se : Int32) (rc : Nat → MR) (ke : Nat) : Int64 := rcN (fun i h => drM nb va (rc i) h) 3 0 (dmB nb va se rc ke)
def dmF (nb : Nat) (va : Nat → Int32) (se : Int32) (rc : Nat → MR) (ke ln : Nat) (tx : Nat → Int32) : Int64 := hsN tx ln 0 (31 * dmC nb va se rc ke + (nI ln).toInt64)
