/-! texts, as the reference reads them: a number: the place behind it, its value, its digits -/
def nuO (cd : Nat → Nat) (ln le ai v d : Nat) : Bool := decide (ai < ln ∧ (48 ≤ cd ai ∧ cd ai ≤ 57) ∧ d < 4 ∧ (d = 0 ∨ 0 < v) ∧ ¬ nI (grN (10 * v + cd ai - 48) (d + 1)) < nI le)
def nuS (cd : Nat → Nat) (ln le : Nat) : Nat → Nat → Nat → Nat → Nat × Nat × Nat
  | 0, ai, v, d => (ai, v, d)
  | k + 1, ai, v, d => if nuO cd ln le ai v d = true then nuS cd ln le k (ai + 1) (10 * v + cd ai - 48) (d + 1) else (ai, v, d)
theorem nuS_y {cd : Nat → Nat} {ln le k ai v d : Nat} (h : nuO cd ln le ai v d = true) : nuS cd ln le (k + 1) ai v d = nuS cd ln le k (ai + 1) (10 * v + cd ai - 48) (d + 1) := by rw [nuS, if_pos h]
theorem nuS_n {cd : Nat → Nat} {ln le k ai v d : Nat} (h : nuO cd ln le ai v d = false) : nuS cd ln le k ai v d = (ai, v, d) := by
  cases k with
  | zero => rfl
  | succ k => rw [nuS, if_neg (by rw [h]; decide)]
def nuW (le : Nat) (q : Nat × Nat × Nat) : Bool := decide (q.2.2 = 0 ∨ q.2.1 < le)
theorem nuS_ok {cd : Nat → Nat} {ln le : Nat} : ∀ k ai v d, ai ≤ ln → v + 1 ≤ 10 ^ d → d + k = 4 → ai ≤ (nuS cd ln le k ai v d).1 ∧ (nuS cd ln le k ai v d).1 ≤ ln ∧ (nuS cd ln le k ai v d).2.1 ≤ 9999 := by
  intro k
  induction k with
  | zero =>
    intro ai v d h1 h2 h3
    have h4 : (10 : Nat) ^ d = 10000 := by rw [show d = 4 by omega]
    exact ⟨Nat.le_refl _, h1, by show v ≤ 9999; omega⟩
  | succ k ih =>
    intro ai v d h1 h2 h3
    cases h : nuO cd ln le ai v d
    · rw [nuS_n h]
      have h4 : (10 : Nat) ^ d ≤ 10 ^ 4 := Nat.pow_le_pow_right (by decide) (by omega)
      have h5 : (10 : Nat) ^ 4 = 10000 := by decide
      exact ⟨Nat.le_refl _, h1, by show v ≤ 9999; omega⟩
    · rw [nuS_y h]
      obtain ⟨q1, q2, q3, _⟩ := of_decide_eq_true h
      have := ih (ai + 1) (10 * v + cd ai - 48) (d + 1) (by omega) (by rw [Nat.pow_succ]; omega) (by omega)
      exact ⟨by omega, this.2⟩
/-- a part of the text: the place behind it, the first number, the last, whether it is wrong -/
def itA (cd : Nat → Nat) (ln ai : Nat) : Nat × Nat × Nat × Bool :=
  if nuW 0 (nuS cd ln 0 4 ai 0 0) = false ∧ (nuS cd ln 0 4 ai 0 0).1 < ln ∧ cd (nuS cd ln 0 4 ai 0 0).1 = 45 then
    ((nuS cd ln (nuS cd ln 0 4 ai 0 0).2.1 4 ((nuS cd ln 0 4 ai 0 0).1 + 1) 0 0).1, (nuS cd ln 0 4 ai 0 0).2.1, (nuS cd ln (nuS cd ln 0 4 ai 0 0).2.1 4 ((nuS cd ln 0 4 ai 0 0).1 + 1) 0 0).2.1, nuW (nuS cd ln 0 4 ai 0 0).2.1 (nuS cd ln (nuS cd ln 0 4 ai 0 0).2.1 4 ((nuS cd ln 0 4 ai 0 0).1 + 1) 0 0))
  else ((nuS cd ln 0 4 ai 0 0).1, (nuS cd ln 0 4 ai 0 0).2.1, (nuS cd ln 0 4 ai 0 0).2.1, nuW 0 (nuS cd ln 0 4 ai 0 0))
theorem itA_y {cd : Nat → Nat} {ln ai : Nat} (h1 : nuW 0 (nuS cd ln 0 4 ai 0 0) = false) (h2 : (nuS cd ln 0 4 ai 0 0).1 < ln) (h3 : cd (nuS cd ln 0 4 ai 0 0).1 = 45) : itA cd ln ai = ((nuS cd ln (nuS cd ln 0 4 ai 0 0).2.1 4 ((nuS cd ln 0 4 ai 0 0).1 + 1) 0 0).1, (nuS cd ln 0 4 ai 0 0).2.1, (nuS cd ln (nuS cd ln 0 4 ai 0 0).2.1 4 ((nuS cd ln 0 4 ai 0 0).1 + 1) 0 0).2.1, nuW (nuS cd ln 0 4 ai 0 0).2.1 (nuS cd ln (nuS cd ln 0 4 ai 0 0).2.1 4 ((nuS cd ln 0 4 ai 0 0).1 + 1) 0 0)) := if_pos ⟨h1, h2, h3⟩
theorem itA_n {cd : Nat → Nat} {ln ai : Nat} (h : ¬ (nuW 0 (nuS cd ln 0 4 ai 0 0) = false ∧ (nuS cd ln 0 4 ai 0 0).1 < ln ∧ cd (nuS cd ln 0 4 ai 0 0).1 = 45)) : itA cd ln ai = ((nuS cd ln 0 4 ai 0 0).1, (nuS cd ln 0 4 ai 0 0).2.1, (nuS cd ln 0 4 ai 0 0).2.1, nuW 0 (nuS cd ln 0 4 ai 0 0)) := if_neg h
abbrev YS : Type := Int32 × (Nat → MR)
def sdM (nb k : Nat) (y : YS) : YS := (y.1 + 1, mapQ (gotM (mskM nb k)) y.2 3)
def spM (nb : Nat) : Nat → Nat → YS → YS
  | 0, _, y => y
  | n + 1, m, y => spM nb n (m + 1) (sdM nb m y)
def snN (el : Bool) (fi la mo : Nat) : Nat := if el = true then (if la + 1 - fi ≤ mo then la + 1 - fi else mo) else 0
def goM (cd : Nat → Nat) (ln nb : Nat) (el : Bool) : Nat → Nat → Nat → YS → Bool × Nat × Nat × YS
  | 0, ai, mn, y => (true, ai, mn, y)
  | k + 1, ai, mn, y =>
    if (itA cd ln ai).2.2.2 = true ∨ ¬ (itA cd ln ai).1 < ln then ((itA cd ln ai).2.2.2, (itA cd ln ai).1, mn + snN el (itA cd ln ai).2.1 (itA cd ln ai).2.2.1 (100 - mn), spM nb (snN el (itA cd ln ai).2.1 (itA cd ln ai).2.2.1 (100 - mn)) (itA cd ln ai).2.1 y)
    else if cd (itA cd ln ai).1 = 44 then goM cd ln nb el k ((itA cd ln ai).1 + 1) (mn + snN el (itA cd ln ai).2.1 (itA cd ln ai).2.2.1 (100 - mn)) (spM nb (snN el (itA cd ln ai).2.1 (itA cd ln ai).2.2.1 (100 - mn)) (itA cd ln ai).2.1 y)
    else (true, (itA cd ln ai).1, mn + snN el (itA cd ln ai).2.1 (itA cd ln ai).2.2.1 (100 - mn), spM nb (snN el (itA cd ln ai).2.1 (itA cd ln ai).2.2.1 (100 - mn)) (itA cd ln ai).2.1 y)
section
variable {cd : Nat → Nat} {ln nb : Nat} {el : Bool} {k ai mn a fi la : Nat} {y : YS} {w : Bool}
theorem goM_e (h : itA cd ln ai = (a, fi, la, w)) (h2 : w = true ∨ ¬ a < ln) : goM cd ln nb el (k + 1) ai mn y = (w, a, mn + snN el fi la (100 - mn), spM nb (snN el fi la (100 - mn)) fi y) := by
  rw [goM, h, if_pos h2]
theorem goM_c (h : itA cd ln ai = (a, fi, la, w)) (h2 : w = false) (h3 : a < ln) (h4 : cd a = 44) : goM cd ln nb el (k + 1) ai mn y = goM cd ln nb el k (a + 1) (mn + snN el fi la (100 - mn)) (spM nb (snN el fi la (100 - mn)) fi y) := by
  rw [goM, h, if_neg (by show ¬ (w = true ∨ ¬ a < ln); rw [h2]; intro z; rcases z with z | z; exact absurd z (by decide); exact z h3), if_pos h4]
theorem goM_w (h : itA cd ln ai = (a, fi, la, w)) (h2 : w = false) (h3 : a < ln) (h4 : ¬ cd a = 44) : goM cd ln nb el (k + 1) ai mn y = (true, a, mn + snN el fi la (100 - mn), spM nb (snN el fi la (100 - mn)) fi y) := by
  rw [goM, h, if_neg (by show ¬ (w = true ∨ ¬ a < ln); rw [h2]; intro z; rcases z with z | z; exact absurd z (by decide); exact z h3), if_neg h4]
end
theorem snN_t (fi la mn : Nat) (h : mn ≤ 100) : (snN true fi la (100 - mn) ≠ 0 → fi + snN true fi la (100 - mn) ≤ la + 1 ∧ mn + snN true fi la (100 - mn) ≤ 100) ∧ (la + 1 ≤ fi + snN true fi la (100 - mn) ∨ 100 ≤ mn + snN true fi la (100 - mn)) ∧ mn + snN true fi la (100 - mn) ≤ 100 := by
  unfold snN
  rw [if_pos rfl]
  split <;> omega
theorem goM_f {cd : Nat → Nat} {ln nb : Nat} : ∀ k ai mn y, (goM cd ln nb false k ai mn y).2.2.2 = y := by
  intro k
  induction k with
  | zero => intro ai mn y; rfl
  | succ k ih =>
    intro ai mn y
    rw [goM]
    split
    · rfl
    · split
      · exact ih _ _ _
      · rfl
/-- the whole object of the reference -/
def MOB (E : wE) (g : Nat → Nat) (th : Int32) (ln : Nat) (tx : Nat → Int32) (nb : Nat) (va : Nat → Int32) (se : Int32) (rc : Nat → MR) (ke : Nat) (hs : Nat → MS) (H : Heap) : Prop :=
  ∃ (sv : Nat → Int32) (ai : Nat) (wr : Bool) (dg : Int64), moZ E g th sv ke tx ln ai wr dg nb va se rc H ∧ svP hs ke sv ∧ ke ≤ 6 ∧ ln ≤ 60 ∧ 2 ≤ nb ∧ nb ≤ 12
theorem inB_t {n a b : Nat} {x lo hi : Int32} (hx : x = nI n) (hlo : lo = nI a) (hhi : hi = nI b) (h1 : a ≤ n) (h2 : n ≤ b) (h3 : b < 2 ^ 31) : inB x lo hi = true := by
  subst hx hlo hhi
  exact decide_eq_true ⟨fun z => absurd ((nI_ltI (by omega) (by omega)).mp z) (by omega), fun z => absurd ((nI_ltI (by omega) (by omega)).mp z) (by omega)⟩
theorem inB_f {n : Nat} {x hi : Int32} (hhi : hi = nI (n - 1)) (h0 : 0 < n) (hn : n < 2 ^ 31) (h : ¬ vp_in x n) : inB x 0 hi = false := by
  subst hhi
  refine decide_eq_false fun z => h ?_
  rcases pk_ix x hn with q | q | ⟨j, hj, rfl⟩
  · exact absurd q z.1
  · exfalso
    refine z.2 ?_
    have : nI (n - 1) < nI n := nI_lt (by omega) hn
    exact Int32.lt_of_lt_of_le this q
  · exact vp_in_nI hj hn
