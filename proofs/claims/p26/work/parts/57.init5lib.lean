def hiB (E : wE) (g : Nat → Nat) (H : Heap) : Prop := wP E 2 g (hiF E g 0 0) H ∧ hiS E g (fun _ => ss0) H
theorem hiB.keep {E : wE} {g : Nat → Nat} {H H1 : Heap} (h : hiB E g H) (hk : ∀ k, k < 74 → H1[g k]? = H[g k]?) : hiB E g H1 := ⟨h.1.keep (fun k hk2 => hk k (by omega)), h.2.keep hk⟩
theorem hi_lt {E : wE} {g : Nat → Nat} {H : Heap} (h : hiB E g H) : ∀ j, j < 74 → g j < H.size := by
  intro j hj
  by_cases h3 : j < 2
  · exact h.1.lt h3
  · have h4 := stT_lt (h.2 ((j - 2) / 12) (by omega)) ((j - 2) % 12) (by omega)
    have e : 2 + 12 * ((j - 2) / 12) + (j - 2) % 12 = j := by omega
    unfold hg at h4
    rw [e] at h4
    exact h4
theorem hiB_cg {E : wE} {g g2 : Nat → Nat} {H : Heap} (h : hiB E g H) (hg : ∀ k, k < 74 → g2 k = g k) : hiB E g2 H := by
  refine ⟨wP_at.mpr fun k hk => ?_, fun i hi => stT_cg (h.2 i hi) (fun k hk => hg _ (by omega))⟩
  have h1 := wP_at.mp h.1 k hk
  rw [hg k (by omega)]
  rcases (show k = 0 ∨ k = 1 by omega) with rfl | rfl
  · show va_at E.1 vwCl (g 0, .inr (1, [.ref (g2 1), .int (nI 0), .int (nI 0)])) H
    rw [hg 1 (by decide)]
    exact h1
  · show H[g 1]? = some (vp_cell E.2.2.2 (6, .inr (.inr (.inr (.inr (fun i => some (g2 (2 + 12 * i))))))))
    have h2 : H[g 1]? = some (vp_cell E.2.2.2 (6, .inr (.inr (.inr (.inr (fun i => some (g (2 + 12 * i)))))))) := h1
    rw [h2, vp_cell_q, vp_cell_q]
    exact congrArg some (arrV_ext fun i hi => by rw [hg _ (by omega)])
theorem elP.keep {E : wE} {g : Nat → Nat} {q : ES} {H H1 : Heap} (h : elP E g q H) (hk : ∀ k, k < 2 → H1[g k]? = H[g k]?) : elP E g q H1 := wP.keep h hk
theorem elP_lt {E : wE} {g : Nat → Nat} {q : ES} {H : Heap} (h : elP E g q H) : ∀ j, j < 2 → g j < H.size := fun j hj => wP.lt h hj
theorem elP_cg {E : wE} {g g2 : Nat → Nat} {q : ES} {H : Heap} (h : elP E g q H) (hg : ∀ k, k < 2 → g2 k = g k) : elP E g2 q H := wP.cg h hg (fun k hk => by
  rcases (show k = 0 ∨ k = 1 by omega) with rfl | rfl
  · show (.inr (0, [.ref (g2 1), .int q.2]) : va_E) = .inr (0, [.ref (g 1), .int q.2])
    rw [hg 1 (by decide)]
  · rfl)
def gMB (a b q : Nat) (ge gt gs gh : Nat → Nat) : Nat → Nat := fun k => if k = 0 then a else if k = 1 then b else if k = 2 then q else if k < 5 then ge (k - 3) else if k < 8 then gt (k - 5) else if k < 20 then gs (k - 8) else gh (k - 20)
theorem gMB_e {a b q : Nat} {ge gt gs gh : Nat → Nat} {j : Nat} (h : j < 2) : gMB a b q ge gt gs gh (3 + j) = ge j := by
  unfold gMB
  rw [if_neg (by omega), if_neg (by omega), if_neg (by omega), if_pos (by omega), Nat.add_sub_cancel_left]
theorem gMB_t {a b q : Nat} {ge gt gs gh : Nat → Nat} {j : Nat} (h : j < 3) : gMB a b q ge gt gs gh (5 + j) = gt j := by
  unfold gMB
  rw [if_neg (by omega), if_neg (by omega), if_neg (by omega), if_neg (by omega), if_pos (by omega), Nat.add_sub_cancel_left]
theorem gMB_s {a b q : Nat} {ge gt gs gh : Nat → Nat} {j : Nat} (h : j < 12) : gMB a b q ge gt gs gh (8 + j) = gs j := by
  unfold gMB
  rw [if_neg (by omega), if_neg (by omega), if_neg (by omega), if_neg (by omega), if_neg (by omega), if_pos (by omega), Nat.add_sub_cancel_left]
theorem gMB_h {a b q : Nat} {ge gt gs gh : Nat → Nat} {j : Nat} : gMB a b q ge gt gs gh (20 + j) = gh j := by
  unfold gMB
  rw [if_neg (by omega), if_neg (by omega), if_neg (by omega), if_neg (by omega), if_neg (by omega), if_neg (by omega), Nat.add_sub_cancel_left]
theorem gMB_I {a b q m1 m2 m5 m6 : Nat} {ge gt gs gh : Nat → Nat} (Ie : wI 2 ge) (It : wI 3 gt) (Is : wI 12 gs) (Ih : wI 74 gh) (h1 : a < m1) (s1 : ∀ j, j < 12 → m1 ≤ gs j) (s2 : ∀ j, j < 12 → gs j < m2) (k1 : ∀ j, j < 74 → m2 ≤ gh j) (k2 : ∀ j, j < 74 → gh j < b) (hbq : b < q) (hq5 : q < m5) (t1 : ∀ j, j < 3 → m5 ≤ gt j) (t2 : ∀ j, j < 3 → gt j < m6) (e1 : ∀ j, j < 2 → m6 ≤ ge j) : wI 94 (gMB a b q ge gt gs gh) ∧ ∀ k, 0 < k → k < 94 → m1 ≤ gMB a b q ge gt gs gh k := by
  have z1 := s1 0 (by decide)
  have z2 := s2 0 (by decide)
  have z3 := k1 0 (by decide)
  have z4 := k2 0 (by decide)
  have z5 := t1 0 (by decide)
  have z6 := t2 0 (by decide)
  have cls : ∀ k, k < 94 → (k = 0 ∧ gMB a b q ge gt gs gh k = a) ∨ (k = 1 ∧ gMB a b q ge gt gs gh k = b) ∨ (k = 2 ∧ gMB a b q ge gt gs gh k = q) ∨ (∃ j, j < 2 ∧ k = 3 + j ∧ gMB a b q ge gt gs gh k = ge j ∧ m6 ≤ gMB a b q ge gt gs gh k) ∨ (∃ j, j < 3 ∧ k = 5 + j ∧ gMB a b q ge gt gs gh k = gt j ∧ m5 ≤ gMB a b q ge gt gs gh k ∧ gMB a b q ge gt gs gh k < m6) ∨ (∃ j, j < 12 ∧ k = 8 + j ∧ gMB a b q ge gt gs gh k = gs j ∧ m1 ≤ gMB a b q ge gt gs gh k ∧ gMB a b q ge gt gs gh k < m2) ∨ (∃ j, j < 74 ∧ k = 20 + j ∧ gMB a b q ge gt gs gh k = gh j ∧ m2 ≤ gMB a b q ge gt gs gh k ∧ gMB a b q ge gt gs gh k < b) := by
    intro k hk
    rcases (show k = 0 ∨ k = 1 ∨ k = 2 ∨ (3 ≤ k ∧ k < 5) ∨ (5 ≤ k ∧ k < 8) ∨ (8 ≤ k ∧ k < 20) ∨ 20 ≤ k by omega) with h | h | h | h | h | h | h
    · subst h; exact Or.inl ⟨rfl, rfl⟩
    · subst h; exact Or.inr (Or.inl ⟨rfl, rfl⟩)
    · subst h; exact Or.inr (Or.inr (Or.inl ⟨rfl, rfl⟩))
    · obtain ⟨j, rfl⟩ : ∃ j, k = 3 + j := ⟨k - 3, by omega⟩
      have e := gMB_e (a := a) (b := b) (q := q) (ge := ge) (gt := gt) (gs := gs) (gh := gh) (j := j) (by omega)
      exact Or.inr (Or.inr (Or.inr (Or.inl ⟨j, by omega, rfl, e, by rw [e]; exact e1 j (by omega)⟩)))
    · obtain ⟨j, rfl⟩ : ∃ j, k = 5 + j := ⟨k - 5, by omega⟩
      have e := gMB_t (a := a) (b := b) (q := q) (ge := ge) (gt := gt) (gs := gs) (gh := gh) (j := j) (by omega)
      exact Or.inr (Or.inr (Or.inr (Or.inr (Or.inl ⟨j, by omega, rfl, e, by rw [e]; exact t1 j (by omega), by rw [e]; exact t2 j (by omega)⟩))))
    · obtain ⟨j, rfl⟩ : ∃ j, k = 8 + j := ⟨k - 8, by omega⟩
      have e := gMB_s (a := a) (b := b) (q := q) (ge := ge) (gt := gt) (gs := gs) (gh := gh) (j := j) (by omega)
      exact Or.inr (Or.inr (Or.inr (Or.inr (Or.inr (Or.inl ⟨j, by omega, rfl, e, by rw [e]; exact s1 j (by omega), by rw [e]; exact s2 j (by omega)⟩)))))
    · obtain ⟨j, rfl⟩ : ∃ j, k = 20 + j := ⟨k - 20, by omega⟩
      have e := gMB_h (a := a) (b := b) (q := q) (ge := ge) (gt := gt) (gs := gs) (gh := gh) (j := j)
      exact Or.inr (Or.inr (Or.inr (Or.inr (Or.inr (Or.inr ⟨j, by omega, rfl, e, by rw [e]; exact k1 j (by omega), by rw [e]; exact k2 j (by omega)⟩)))))
  constructor
  · intro i j hi hj e
    rcases cls i hi with ⟨i1, i2⟩ | ⟨i1, i2⟩ | ⟨i1, i2⟩ | ⟨u, i1, i2, i3, i4⟩ | ⟨u, i1, i2, i3, i4, i5⟩ | ⟨u, i1, i2, i3, i4, i5⟩ | ⟨u, i1, i2, i3, i4, i5⟩ <;> rcases cls j hj with ⟨j1, j2⟩ | ⟨j1, j2⟩ | ⟨j1, j2⟩ | ⟨v, j1, j2, j3, j4⟩ | ⟨v, j1, j2, j3, j4, j5⟩ | ⟨v, j1, j2, j3, j4, j5⟩ | ⟨v, j1, j2, j3, j4, j5⟩ <;> first | omega | (have h8 := Ie u v i1 j1 (i3.symm.trans (e.trans j3)); omega) | (have h8 := It u v i1 j1 (i3.symm.trans (e.trans j3)); omega) | (have h8 := Is u v i1 j1 (i3.symm.trans (e.trans j3)); omega) | (have h8 := Ih u v i1 j1 (i3.symm.trans (e.trans j3)); omega)
  · intro i hi0 hi
    rcases cls i hi with ⟨i1, i2⟩ | ⟨i1, i2⟩ | ⟨i1, i2⟩ | ⟨u, i1, i2, i3, i4⟩ | ⟨u, i1, i2, i3, i4, i5⟩ | ⟨u, i1, i2, i3, i4, i5⟩ | ⟨u, i1, i2, i3, i4, i5⟩ <;> omega
