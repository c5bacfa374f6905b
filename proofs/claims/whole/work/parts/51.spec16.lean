theorem spN_le (q : PA) (mo : Nat) : spN q mo ≤ mo := by
  unfold spN
  split <;> omega
/-- sending the whole buffer: so many are sent, the part, the state -/
def saE (y : Nat × PA × SS) : Nat × PA × SS := (y.1 + spN y.2.1 (100 - y.1), y.2.1, spZ (spN y.2.1 (100 - y.1)) (fmN y.2.1) y.2.2)
def saS (cd : Nat → Nat) : Nat → Nat → Nat × PA × SS → Nat × PA × SS
  | 0, _, y => y
  | k + 1, i, y => if cd i = 44 then saS cd k (i + 1) ((saE y).1, (tkS y.2.1 (cd i)).2, (saE y).2.2) else saS cd k (i + 1) (y.1, (tkS y.2.1 (cd i)).2, y.2.2)
def saZ (cd : Nat → Nat) (ln : Nat) (z : SS) : Nat × PA × SS := saE (saS cd ln 0 (0, (-1, 0, 0), z))
