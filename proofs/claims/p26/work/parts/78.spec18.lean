/-! the digest, as the class computes it -/
def hgF (z : SS) (r : RR) (h : Int64) : Int64 := 31 * (31 * (31 * (31 * (31 * (31 * (31 * h + (getS (mixS z.1 z.2.1 100) r.2).1.toInt64) + (rankQ (getS (mixS z.1 z.2.1 100) r.2).2).toInt64) + (nhS (helpB z r) (nhN 0) 0).toInt64) + (ndS z 5 false 100 0 r.2).toInt64) + (ndS z 5 true 100 0 r.2).toInt64) + (findS r.2).2.2.2.2.toInt64) + bcF (shF r.2.2.2.2.1 r.2.2.2.2.2.1 r.2.2.2.2.2.2)
def rcN (f : Nat → Int64 → Int64) : Nat → Nat → Int64 → Int64
  | 0, _, h => h
  | k + 1, i, h => rcN f k (i + 1) (f i h)
def dgA (z : SS) (ke : Nat) : Int64 := hsN (fun j => countF z ke j) 6 0 3253
def dgB (z : SS) (ke : Nat) : Int64 := hsN z.2.1 z.1 0 (dgA z ke)
def dgC (z : SS) (ke : Nat) : Int64 := rcN (fun i h => hgF z (z.2.2.2 i) (hstF z (z.2.2.2 i) h)) 3 0 (dgB z ke)
def dgF (z : SS) (ke ln : Nat) (bf : Nat → Int32) : Int64 := hsN bf ln 0 (31 * dgC z ke + (nI ln).toInt64)
