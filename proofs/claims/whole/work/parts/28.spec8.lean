theorem degN_le (j : Nat) : degN j ≤ 12 := by
  unfold degN
  by_cases h : j < 16
  · have : ∀ j, j < 16 → ([1, 1, 2, 2, 2, 2, 2, 3, 3, 3, 4, 4, 5, 6, 8, 12] : List Nat).getD j 1 ≤ 12 := by decide
    exact this j h
  · rw [List.getD_eq_getElem?_getD, List.getElem?_eq_none (by show 16 ≤ j; omega)]
    decide
theorem minI {a b : Nat} (ha : a < 2 ^ 31) (hb : b < 2 ^ 31) : (if nI a < nI b then nI a else nI b) = nI (if a < b then a else b) := by
  by_cases h : a < b
  · rw [if_pos h, if_pos ((nI_ltI ha hb).mpr h)]
  · rw [if_neg h, if_neg (fun z => h ((nI_ltI ha hb).mp z))]
/-- the first i receivers are the others, the rest as before -/
def spR (r2 rs : Nat → RR) (i : Nat) : Nat → RR := fun j => if j < i then r2 j else rs j
theorem spR_0 (r2 rs : Nat → RR) : spR r2 rs 0 = rs := by
  funext j
  unfold spR
  rw [if_neg (Nat.not_lt_zero j)]
theorem spR_at {r2 rs : Nat → RR} {i : Nat} : spR r2 rs i i = rs i := by
  unfold spR
  rw [if_neg (Nat.lt_irrefl i)]
theorem spR_s {r2 rs : Nat → RR} {i : Nat} : va_up (spR r2 rs i) i (r2 i) = spR r2 rs (i + 1) := by
  funext j
  unfold va_up spR
  by_cases e : j = i
  · subst e
    rw [if_pos rfl, if_pos (Nat.lt_succ_self j)]
  · rw [if_neg e]
    by_cases h2 : j < i
    · rw [if_pos h2, if_pos (Nat.lt_succ_of_lt h2)]
    · rw [if_neg h2, if_neg (show ¬ j < i + 1 by omega)]
theorem stR.cg {E : wE} {g : Nat → Nat} {rs rs2 : Nat → RR} {H : Heap} (h : stR E g rs H) (e : ∀ i, i < 3 → rs i = rs2 i) : stR E g rs2 H := fun i hi => by
  rw [← e i hi]
  exact h i hi
theorem stF_va {E : wE} {g : Nat → Nat} {nb : Nat} {va va' : Nat → Int32} {se : Int32} {H : Heap} (h : wP E 3 g (stF E g nb va se) H) (e : ∀ j, j < 12 → va j = va' j) : wP E 3 g (stF E g nb va' se) H := by
  refine wP_at.mpr fun k hk => ?_
  have h1 := wP_at.mp h k hk
  match k, hk with
  | 0, _ => exact h1
  | 1, _ => exact cell_cg h1 e
  | 2, _ => exact h1
  | _ + 3, hk => exact absurd hk (by omega)
