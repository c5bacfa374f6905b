/-- the digest's loops -/
def hsN (f : Nat → Int32) : Nat → Nat → Int64 → Int64
  | 0, _, h => h
  | k + 1, i, h => hsN f k (i + 1) (31 * h + (f i).toInt64)
def hsW (L : List Int32) : Nat → Nat → Int64 → Int64
  | 0, _, h => h
  | k + 1, i, h => hsW L k (i + 1) (31 * (31 * h + (L.getD i 0 &&& 4095).toInt64) + (L.getD i 0 >>> ((12 : Int32) &&& 31)).toInt64)
def hstF (z : SS) (r : RR) (h : Int64) : Int64 := hsW r.2.2.2.1 r.2.2.2.1.length 0 (hsN (fun b => knownF r b) z.1 0 (hsN (fun j => numF z.1 r j) 9 0 h))
