theorem rng2 {x : Int32} {a b : Nat} (hb : b < 2 ^ 31 - 1) (h1 : ¬ x < nI a) (h2 : x ≤ nI b) (ha : a < 2 ^ 31) : ∃ n, a ≤ n ∧ n ≤ b ∧ x = nI n := by
  have h0 : ¬ x < 0 := fun q => by
    have h3 := Int32.not_lt.mp h1
    have h4 := Int32.lt_of_le_of_lt h3 q
    exact nI_pos ha h4
  obtain ⟨j, hj, e⟩ := vp_in_of (vin_le (n := b) (by omega) h0 h2) (by omega)
  subst e
  refine ⟨j, ?_, by omega, rfl⟩
  rcases Nat.lt_or_ge j a with q | q
  · exact absurd (nI_lt q ha) h1
  · exact q
def sizeZ (z : SS) (n : Nat) : SS := (n, cutV z.2.1 n 12, z.2.2.1, mapR fgR z.2.2.2 3)
def writeZ (z : SS) (b : Nat) (v : Int32) : SS := (z.1, upd z.2.1 b v, z.2.2.1, mapR fgR z.2.2.2 3)
def recvZ (z : SS) (i : Nat) (r : RR) : SS := (z.1, z.2.1, z.2.2.1, va_up z.2.2.2 i r)
def sendZ (z : SS) (k : Nat) : SS := (z.1, z.2.1, z.2.2.1 + 1, mapR (gotR (mixS z.1 z.2.1 k)) z.2.2.2 3)
def elimR (r : RR) : RR := (r.1, (findS r.2).1, (findS r.2).2.1, (findS r.2).2.2.1, r.2.2.2.2.1, (findS r.2).2.2.2.1, r.2.2.2.2.2.2)
