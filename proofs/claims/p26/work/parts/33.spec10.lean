/-! the saved states: two cells, behind them six states of twelve cells -/
def hiF (E : wE) (g : Nat → Nat) (ol ke : Nat) : Nat → va_E := fun k => match k with
  | 0 => .inr (1, [.ref (g 1), .int (nI ol), .int (nI ke)])
  | _ => .inl (E.2.2.2, 6, .inr (.inr (.inr (.inr (fun i => some (g (2 + 12 * i)))))))
theorem hi_ne0 {E : wE} {g : Nat → Nat} {ol ol' ke ke' : Nat} : ∀ j, j < 2 → j ≠ 0 → hiF E g ol' ke' j = hiF E g ol ke j := by
  intro j _ h
  match j, h with
  | 0, h => exact absurd rfl h
  | _ + 1, _ => rfl
def hg (g : Nat → Nat) (i : Nat) : Nat → Nat := fun j => g (2 + 12 * i + j)
def stT (E : wE) (g : Nat → Nat) (z : SS) (H : Heap) : Prop := stP E g z.1 z.2.1 z.2.2.1 z.2.2.2 H
def hiS (E : wE) (g : Nat → Nat) (zs : Nat → SS) (H : Heap) : Prop := ∀ i, i < 6 → stT E (hg g i) (zs i) H
theorem hg_I {g : Nat → Nat} {i : Nat} (h : wI 74 g) (hi : i < 6) : wI 12 (hg g i) := h.off (2 + 12 * i) (by omega)
theorem hg_X {g g2 : Nat → Nat} {i : Nat} (h : wX 74 g 12 g2) (hi : i < 6) : wX 12 (hg g i) 12 g2 := fun a b ha hb e => h (2 + 12 * i + a) b (by omega) hb e
theorem stP.keep {E : wE} {g : Nat → Nat} {nb : Nat} {va : Nat → Int32} {se : Int32} {rs : Nat → RR} {H H1 : Heap} (h : stP E g nb va se rs H) (hk : ∀ k, k < 12 → H1[g k]? = H[g k]?) : stP E g nb va se rs H1 :=
  ⟨h.1.keep (fun k hk2 => hk k (by omega)), fun i hi => (h.2 i hi).keep (fun k hk2 => hk _ (by omega))⟩
theorem hiS.put {E : wE} {g : Nat → Nat} {zs : Nat → SS} {H H1 : Heap} (h : hiS E g zs H) (hI : wI 74 g) {k : Nat} (hk : k < 2) (ho : ∀ q : Nat, q ≠ g k → H1[q]? = H[q]?) : hiS E g zs H1 := by
  intro i hi
  refine (h i hi).keep fun j hj => ho _ fun e => ?_
  have := hI (2 + 12 * i + j) k (by omega) (by omega) e
  omega
theorem hiS.same {E : wE} {g : Nat → Nat} {zs : Nat → SS} {H H1 : Heap} (h : hiS E g zs H) (hk : ∀ x : Nat, x < H.size → ¬ wN x → H1[x]? = H[x]?) : hiS E g zs H1 := fun i hi => (h i hi).same hk
theorem hiS.other {E : wE} {g : Nat → Nat} {zs : Nat → SS} {H H1 : Heap} {A : Nat → Prop} (h : hiS E g zs H) (hk : ∀ x : Nat, x < H.size → ¬ A x → H1[x]? = H[x]?) (hA : ∀ k, k < 74 → ¬ A (g k)) : hiS E g zs H1 := fun i hi => (h i hi).other hk (fun k hk2 => hA _ (by omega))
theorem hiS.set2 {E : wE} {g g2 : Nat → Nat} {zs : Nat → SS} {H H1 : Heap} {i : Nat} (hI : wI 74 g) (hX : wX 74 g 12 g2) (h : hiS E g zs H) (hi : i < 6) (hk : ∀ q : Nat, q < H.size → ¬ (wF 12 (hg g i) q ∨ wF 12 g2 q) → H1[q]? = H[q]?) {z : SS} (h1 : stT E (hg g i) z H1) : hiS E g (va_up zs i z) H1 := by
  intro j hj
  by_cases e : j = i
  · subst e
    unfold va_up
    rw [if_pos rfl]
    exact h1
  · unfold va_up
    rw [if_neg e]
    refine (h j hj).other hk fun k hk2 y => y.elim ?_ ?_
    · rintro ⟨x, hx, ex⟩
      have := hI (2 + 12 * j + k) (2 + 12 * i + x) (by omega) (by omega) ex
      omega
    · rintro ⟨x, hx, ex⟩
      exact hX (2 + 12 * j + k) x (by omega) hx ex
theorem va_up_id {α : Type} (f : Nat → α) (k : Nat) : va_up f k (f k) = f := by
  funext j
  unfold va_up
  by_cases h : j = k
  · rw [if_pos h, h]
  · rw [if_neg h]
theorem hg_main {g g2 : Nat → Nat} {i : Nat} (h : wI 74 g) (hX : wX 74 g 12 g2) (hi : i < 6) : ∀ k, k < 2 → ¬ (wF 12 (hg g i) (g k) ∨ wF 12 g2 (g k)) := by
  rintro k hk (⟨j, hj, e⟩ | ⟨j, hj, e⟩)
  · have := h k (2 + 12 * i + j) (by omega) (by omega) e
    omega
  · exact hX k j (by omega) hj e
theorem hg_in {g g2 : Nat → Nat} {i : Nat} (hi : i < 6) : ∀ q, (wF 12 (hg g i) q ∨ wF 12 g2 q) → (wF 74 g q ∨ wF 12 g2 q) := by
  rintro q (⟨j, hj, rfl⟩ | h)
  · exact Or.inl ⟨2 + 12 * i + j, by omega, rfl⟩
  · exact Or.inr h
theorem hg_in' {g g2 : Nat → Nat} {i : Nat} (hi : i < 6) : ∀ q, (wF 12 g2 q ∨ wF 12 (hg g i) q) → (wF 74 g q ∨ wF 12 g2 q) := fun q h => hg_in hi q h.symm
def kpO (ol ke : Nat) : Nat := if ke < 6 then ol else (ol + 1) % 6
def kpK (ke : Nat) : Nat := if ke < 6 then ke + 1 else ke
def gbK (ke : Nat) : Nat := ke - 1
