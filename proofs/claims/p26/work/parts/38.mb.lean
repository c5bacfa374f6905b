/-! the whole object: 94 cells. 0: itself, 1: the buffer, 2: the part, 3..4: the elimination, 5..7: the trial, 8..19: the state, 20..93: the saved states -/
def off (g : Nat → Nat) (o : Nat) : Nat → Nat := fun j => g (o + j)
theorem off_I {g : Nat → Nat} {o n : Nat} (h : wI 94 g) (hn : o + n ≤ 94) : wI n (off g o) := h.off o hn
theorem off_X {g : Nat → Nat} {o n o2 n2 : Nat} (h : wI 94 g) (hd : o + n ≤ o2 ∨ o2 + n2 ≤ o) (h1 : o + n ≤ 94) (h2 : o2 + n2 ≤ 94) : wX n (off g o) n2 (off g o2) := fun i j hi hj e => by
  have := h (o + i) (o2 + j) (by omega) (by omega) e
  omega
theorem off_M {g : Nat → Nat} {o2 n2 : Nat} (h : wI 94 g) (hd : 2 ≤ o2) (h2 : o2 + n2 ≤ 94) : wX 2 g n2 (off g o2) := fun i j hi hj e => by
  have := h i (o2 + j) (by omega) (by omega) e
  omega
theorem off_in {g : Nat → Nat} {o n : Nat} (h : o + n ≤ 94) : ∀ q, wF n (off g o) q → wF 94 g q := by
  rintro q ⟨j, hj, rfl⟩
  exact ⟨o + j, by omega, rfl⟩
theorem off_in2 {g : Nat → Nat} {o n o2 n2 : Nat} (h : o + n ≤ 94) (h2 : o2 + n2 ≤ 94) : ∀ q, (wF n (off g o) q ∨ wF n2 (off g o2) q) → wF 94 g q := fun q z => z.elim (off_in h q) (off_in h2 q)
theorem off_inr {g : Nat → Nat} {i : Nat} (hi : i < 3) : ∀ q, wF 3 (rg (off g 8) i) q → wF 94 g q := fun q z => off_in (o := 8) (n := 12) (by decide) q (rg_in hi q z)
theorem wX.out2 {n n2 n3 : Nat} {g g2 g3 : Nat → Nat} (h : wX n g n2 g2) (h3 : wX n g n3 g3) : ∀ k, k < n → ¬ (wF n2 g2 (g k) ∨ wF n3 g3 (g k)) := fun k hk z => z.elim (h.out k hk) (h3.out k hk)
theorem wX.rg {n : Nat} {g g2 : Nat → Nat} (h : wX n g 12 g2) {i : Nat} (hi : i < 3) : wX n g 3 (rg g2 i) := fun a b ha hb e => h a (3 + 3 * i + b) ha (by omega) e
theorem hiS.keep {E : wE} {g : Nat → Nat} {zs : Nat → SS} {H H1 : Heap} (h : hiS E g zs H) (hk : ∀ k, k < 74 → H1[g k]? = H[g k]?) : hiS E g zs H1 := fun i hi => (h i hi).keep (fun k hk2 => hk _ (by omega))
/-- itself: its state, the saved states, the buffer, its length, the part, the trial, the elimination -/
def mbF (E : wE) (g : Nat → Nat) (ln : Nat) (bf : Nat → Int32) : Nat → va_E := fun k => match k with
  | 0 => .inr (5, [.ref (g 8), .ref (g 20), .ref (g 1), .int (nI ln), .ref (g 2), .ref (g 5), .ref (g 3)])
  | _ => .inl (E.2.1, 60, .inl bf)
theorem mb_ne0 {E : wE} {g : Nat → Nat} {ln ln' : Nat} {bf : Nat → Int32} : ∀ j, j < 2 → j ≠ 0 → mbF E g ln' bf j = mbF E g ln bf j := by
  intro j _ h
  match j, h with
  | 0, h => exact absurd rfl h
  | _ + 1, _ => rfl
theorem mb_ne1 {E : wE} {g : Nat → Nat} {ln : Nat} {bf bf' : Nat → Int32} : ∀ j, j < 2 → j ≠ 1 → mbF E g ln bf' j = mbF E g ln bf j := by
  intro j h3 h
  match j, h, h3 with
  | 0, _, _ => rfl
  | 1, h, _ => exact absurd rfl h
  | _ + 2, _, h3 => exact absurd h3 (by omega)
def mbS (E : wE) (g : Nat → Nat) (H : Heap) : Prop := (∃ q : PA, wP E 1 (off g 2) (paF q.1 q.2.1 q.2.2) H) ∧ (∃ q : ES, wP E 2 (off g 3) (elF E (off g 3) q.1 q.2) H) ∧ ∃ (li : Bool) (q : RS), rcT E (off g 5) li q H
/-- the object, as its calls tell it: the buffer, the state, the saved states from the oldest on; numbers in range -/
def MB (E : wE) (g : Nat → Nat) (ln : Nat) (bf : Nat → Int32) (z : SS) (ke : Nat) (hs : Nat → SS) (H : Heap) : Prop :=
  ∃ (ol : Nat) (zs : Nat → SS), (ol < 6 ∧ ke ≤ 6 ∧ (∀ j, j < ke → zs ((ol + j) % 6) = hs j ∧ 2 ≤ (hs j).1 ∧ (hs j).1 ≤ 12) ∧ ln ≤ 60 ∧ 2 ≤ z.1 ∧ z.1 ≤ 12) ∧ wP E 2 g (mbF E g ln bf) H ∧ mbS E g H ∧ stT E (off g 8) z H ∧ wP E 2 (off g 20) (hiF E (off g 20) ol ke) H ∧ hiS E (off g 20) zs H
def pushH (ke : Nat) (hs : Nat → SS) (z : SS) : Nat → SS := if ke < 6 then va_up hs ke z else fun j => if j = 5 then z else hs (j + 1)
theorem pushH_ok {ol ke : Nat} {zs hs : Nat → SS} {z : SS} (hol : ol < 6) (hke : ke ≤ 6) (h : ∀ j, j < ke → zs ((ol + j) % 6) = hs j ∧ 2 ≤ (hs j).1 ∧ (hs j).1 ≤ 12) (hz : 2 ≤ z.1 ∧ z.1 ≤ 12) : kpO ol ke < 6 ∧ kpK ke ≤ 6 ∧ ∀ j, j < kpK ke → (va_up zs ((ol + ke) % 6) z) ((kpO ol ke + j) % 6) = pushH ke hs z j ∧ 2 ≤ (pushH ke hs z j).1 ∧ (pushH ke hs z j).1 ≤ 12 := by
  unfold kpO kpK pushH va_up
  by_cases c : ke < 6
  · rw [if_pos c, if_pos c, if_pos c]
    refine ⟨hol, by omega, fun j hj => ?_⟩
    by_cases e : j = ke
    · subst e
      rw [if_pos rfl, if_pos rfl]
      exact ⟨rfl, hz⟩
    · rw [if_neg e, if_neg (by omega)]
      exact h j (by omega)
  · have hk6 : ke = 6 := by omega
    subst hk6
    rw [if_neg c, if_neg c, if_neg c]
    refine ⟨Nat.mod_lt _ (by decide), Nat.le_refl _, fun j hj => ?_⟩
    by_cases e : j = 5
    · subst e
      rw [if_pos rfl, if_pos (by omega)]
      exact ⟨rfl, hz⟩
    · rw [if_neg e, if_neg (by omega)]
      have h2 := h (j + 1) (by omega)
      rw [show ((ol + 1) % 6 + j) % 6 = (ol + (j + 1)) % 6 by omega]
      exact h2
