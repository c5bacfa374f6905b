def cpG (a b : Nat) : Nat → Nat := fun k => match k with
  | 0 => a
  | _ => b
theorem cp_mk {E : wE} {a b z : Nat} {x y : Nat → Int32} {H : Heap} (h1 : va_at E.1 vwCl (a, .inl (E.2.1, z, .inl x)) H) (h2 : va_at E.1 vwCl (b, .inl (E.2.1, z, .inl y)) H) : wP E 2 (cpG a b) (cpF E z x y) H := by
  refine wP_at.mpr fun k hk => ?_
  match k, hk with
  | 0, _ => exact h1
  | 1, _ => exact h2
  | _ + 2, hk => exact absurd hk (by omega)
theorem cpG_I {a b : Nat} (h : a ≠ b) : wI 2 (cpG a b) := by
  intro i j hi hj e
  match i, j, hi, hj with
  | 0, 0, _, _ => rfl
  | 1, 1, _, _ => rfl
  | 0, 1, _, _ => exact absurd e h
  | 1, 0, _, _ => exact absurd e.symm h
  | _ + 2, _, hi, _ => exact absurd hi (by omega)
  | _, _ + 2, _, hj => exact absurd hj (by omega)
theorem cpG_F {a b q : Nat} (h : wF 2 (cpG a b) q) : q = a ∨ q = b := by
  obtain ⟨k, hk, e⟩ := h
  match k, hk with
  | 0, _ => exact Or.inl e
  | 1, _ => exact Or.inr e
  | _ + 2, hk => exact absurd hk (by omega)
/-- one cell of a world is another now -/
theorem wP.cell {E : wE} {n : Nat} {g : Nat → Nat} {f f2 : Nat → va_E} {H H1 : Heap} {A : Nat → Prop} (h : wP E n g f H) (k0 : Nat) (h1 : va_at E.1 vwCl (g k0, f2 k0) H1) (hk : ∀ q : Nat, q < H.size → ¬ A q → H1[q]? = H[q]?) (hA : ∀ k, k < n → k ≠ k0 → ¬ A (g k)) (hf : ∀ j, j < n → j ≠ k0 → f2 j = f j) : wP E n g f2 H1 := by
  refine wP_at.mpr fun k hkn => ?_
  by_cases e : k = k0
  · subst e
    exact h1
  · rw [hf k hkn e]
    have h3 := wP_at.mp h k hkn
    exact h3.kept (hk _ h3.lt (hA k hkn e))
theorem cpy_at {x y : Nat → Int32} {z j : Nat} (h : j < z) : va_cpy x y 0 0 z j = x j := by
  rw [pk_cpy_in (Nat.zero_le j) (by omega), Nat.sub_zero, Nat.zero_add]
theorem cpG_sub {A : Nat → Prop} {a b : Nat} (ha : A a) (hb : A b) : ∀ q, wF 2 (cpG a b) q → A q := by
  intro q h
  rcases cpG_F h with e | e
  · rw [e]; exact ha
  · rw [e]; exact hb
