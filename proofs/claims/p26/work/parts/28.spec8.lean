theorem degN_le (j : Nat) : degN j ≤ 12 := by
  unfold degN
  by_cases h : j < 16
  · have : ∀ j, j < 16 → ([1, 1, 2, 2, 2, 2, 2, 3, 3, 3, 4, 4, 5, 6, 8, 12] : List Nat).getD j 1 ≤ 12 := by decide
    exact this j h
  · rw [List.getD_eq_getElem?_getD, List.getElem?_eq_none (by show 16 ≤ j; omega)]
    decide
theorem minI {a b : Nat} (ha : a < 2 ^ 31) (hb : b < 2 ^ 31) : (if nI a < nI b then nI a else nI b) = nI (if a < b then a else b) := by
  by_cases h : a < b
  · rw [if_pos h, if_pos ((nI_ltI ha hb).mpr h)]
  · rw [if_neg h, if_neg (fun z => h ((nI_ltI ha hb).mp z))]
/-- the first i receivers are the others, the rest as before -/
def spR (r2 rs : Nat → RR) (i : Nat) : Nat → RR := fun j => if j < i then r2 j else rs j
theorem spR_0 (r2 rs : Nat → RR) : spR r2 rs 0 = rs := by
  funext j
  unfold spR
  rw [if_neg (Nat.not_lt_zero j)]
theorem spR_at {r2 rs : Nat → RR} {i : Nat} : spR r2 rs i i = rs i := by
  unfold spR
  rw [if_neg (Nat.lt_irrefl i)]
theorem spR_s {r2 rs : Nat → RR} {i : Nat} : va_up (spR r2 rs i) i (r2 i) = spR r2 rs (i + 1) := by
  funext j
  unfold va_up spR
  by_cases e : j = i
  · subst e
    rw [if_pos rfl, if_pos (Nat.lt_succ_self j)]
  · rw [if_neg e]
    by_cases h2 : j < i
    · rw [if_pos h2, if_pos (Nat.lt_succ_of_lt h2)]
    · rw [if_neg h2, if_neg (show ¬ j < i + 1 by omega)]
theorem stR.cg {E : wE} {g : Nat → Nat} {rs rs2 : Nat → RR} {H : Heap} (h : stR E g rs H) (e : ∀ i, i < 3 → rs i = rs2 i) : stR E g rs2 H := fun i hi => by
  rw [← e i hi]
  exact h i hi
theorem stF_va {E : wE} {g : Nat → Nat} {nb : Nat} {va va' : Nat → Int32} {se : Int32} {H : Heap} (h : wP E 3 g (stF E g nb va se) H) (e : ∀ j, j < 12 → va j = va' j) : wP E 3 g (stF E g nb va' se) H := by
  refine wP_at.mpr fun k hk => ?_
  have h1 := wP_at.mp h k hk
  match k, hk with
  | 0, _ => exact h1
  | 1, _ => exact cell_cg h1 e
  | 2, _ => exact h1
  | _ + 3, hk => exact absurd hk (by omega)
theorem rg_X {g g2 : Nat → Nat} {i j : Nat} (hX : wX 12 g 12 g2) (hi : i < 3) (hj : j < 3 := by omega) : wX 3 (rg g i) 3 (rg g2 j) := fun a b ha hb e => hX (3 + 3 * i + a) (3 + 3 * j + b) (by omega) (by omega) e
theorem stR.set2 {E : wE} {g g2 : Nat → Nat} {rs : Nat → RR} {H H1 : Heap} {i : Nat} (hI : wI 12 g) (hX : wX 12 g 12 g2) (h : stR E g rs H) (hi : i < 3) (hk : ∀ q : Nat, q < H.size → ¬ (wF 3 (rg g i) q ∨ wF 3 (rg g2 i) q) → H1[q]? = H[q]?) {r : RR} (h1 : rcT E (rg g i) r.1 r.2 H1) : stR E g (va_up rs i r) H1 := by
  intro j hj
  by_cases e : j = i
  · subst e
    unfold va_up
    rw [if_pos rfl]
    exact h1
  · unfold va_up
    rw [if_neg e]
    exact (h j hj).other hk (fun k hk2 z => z.elim (rg_rg hI hi hj e k hk2) (fun ⟨y, hy, ey⟩ => hX (3 + 3 * j + k) (3 + 3 * i + y) (by omega) (by omega) ey))
theorem stR.set3 {E : wE} {g g2 : Nat → Nat} {rs : Nat → RR} {H H1 : Heap} {i : Nat} (hJ : wI 12 g2) (hX : wX 12 g 12 g2) (h : stR E g2 rs H) (hi : i < 3) (hk : ∀ q : Nat, q < H.size → ¬ (wF 3 (rg g i) q ∨ wF 3 (rg g2 i) q) → H1[q]? = H[q]?) (h1 : rcT E (rg g2 i) (rs i).1 (rs i).2 H1) : stR E g2 rs H1 := by
  intro j hj
  by_cases e : j = i
  · subst e
    exact h1
  · exact (h j hj).other hk (fun k hk2 z => z.elim (fun ⟨y, hy, ey⟩ => hX (3 + 3 * i + y) (3 + 3 * j + k) (by omega) (by omega) ey.symm) (rg_rg hJ hi hj e k hk2))
theorem rg_in2 {g g2 : Nat → Nat} {i : Nat} (hi : i < 3) : ∀ q, (wF 3 (rg g i) q ∨ wF 3 (rg g2 i) q) → (wF 12 g q ∨ wF 12 g2 q) := fun q h => h.elim (fun h => Or.inl (rg_in hi q h)) (fun h => Or.inr (rg_in hi q h))
