/-- the object, with the part told -/
def MBp (E : wE) (g : Nat → Nat) (ln : Nat) (bf : Nat → Int32) (z : SS) (ke : Nat) (hs : Nat → SS) (q0 : PA) (H : Heap) : Prop :=
  ∃ (ol : Nat) (zs : Nat → SS), (ol < 6 ∧ ke ≤ 6 ∧ (∀ j, j < ke → zs ((ol + j) % 6) = hs j ∧ 2 ≤ (hs j).1 ∧ (hs j).1 ≤ 12) ∧ ln ≤ 60 ∧ 2 ≤ z.1 ∧ z.1 ≤ 12) ∧ wP E 2 g (mbF E g ln bf) H ∧ (wP E 1 (off g 2) (paF q0.1 q0.2.1 q0.2.2) H ∧ (∃ q : ES, wP E 2 (off g 3) (elF E (off g 3) q.1 q.2) H) ∧ ∃ (li : Bool) (q : RS), rcT E (off g 5) li q H) ∧ stT E (off g 8) z H ∧ wP E 2 (off g 20) (hiF E (off g 20) ol ke) H ∧ hiS E (off g 20) zs H
theorem MBp.mb {E : wE} {g : Nat → Nat} {ln : Nat} {bf : Nat → Int32} {z : SS} {ke : Nat} {hs : Nat → SS} {q0 : PA} {H : Heap} (h : MBp E g ln bf z ke hs q0 H) : MB E g ln bf z ke hs H := by
  obtain ⟨ol, zs, hr, hM, ⟨hPa, hEl, hTr⟩, hN, hHi, hHs⟩ := h
  exact ⟨ol, zs, hr, hM, ⟨⟨q0, hPa⟩, hEl, hTr⟩, hN, hHi, hHs⟩
def paOK (q : PA) : Prop := q.2.1 + 1 ≤ 10 ^ q.2.2 ∧ q.2.2 ≤ 4 ∧ (q.1 = -1 ∨ ∃ n : Nat, n ≤ 9999 ∧ q.1 = nI n)
theorem paOK.le {q : PA} (h : paOK q) : q.2.1 ≤ 9999 := by
  have h1 : (10 : Nat) ^ q.2.2 ≤ 10 ^ 4 := Nat.pow_le_pow_right (by decide) h.2.1
  have h2 : (10 : Nat) ^ 4 = 10000 := by decide
  have := h.1
  omega
theorem paOK_0 : paOK (-1, 0, 0) := ⟨by decide, by decide, Or.inl rfl⟩
theorem tkD_ok {q : PA} {d : Nat} (h : paOK q) (hd : d ≤ 9) : paOK (tkD q d).2 := by
  unfold tkD
  by_cases h1 : 0 < q.2.2 ∧ q.2.1 = 0
  · rw [if_pos h1]; exact h
  rw [if_neg h1]
  by_cases h2 : 4 ≤ q.2.2
  · rw [if_pos h2]; exact h
  rw [if_neg h2]
  by_cases h3 : q.1 ≤ nI (grN (q.2.1 * 10 + d) (q.2.2 + 1))
  · rw [if_pos h3]
    refine ⟨?_, ?_, h.2.2⟩
    · show q.2.1 * 10 + d + 1 ≤ 10 ^ (q.2.2 + 1)
      rw [Nat.pow_succ]
      have := h.1
      omega
    · show q.2.2 + 1 ≤ 4
      omega
  · rw [if_neg h3]; exact h
theorem tkS_ok {q : PA} {k : Nat} (h : paOK q) : paOK (tkS q k).2 := by
  unfold tkS
  by_cases h1 : 48 ≤ k ∧ k ≤ 57
  · rw [if_pos h1]; exact tkD_ok h (by omega)
  rw [if_neg h1]
  by_cases h2 : k = 45
  · rw [if_pos h2]
    by_cases h3 : 0 < q.2.2 ∧ q.1 = -1
    · rw [if_pos h3]; exact ⟨(by decide : 0 + 1 ≤ 10 ^ 0), (by decide : 0 ≤ 4), Or.inr ⟨q.2.1, h.le, rfl⟩⟩
    · rw [if_neg h3]; exact h
  rw [if_neg h2]
  by_cases h3 : k = 44
  · rw [if_pos h3]
    by_cases h4 : cmI q = true
    · rw [if_pos h4]; exact paOK_0
    · rw [if_neg h4]; exact h
  rw [if_neg h3]; exact h
/-- the first code that is an error: its place, and what stands of the part -/
def feS (cd : Nat → Nat) : Nat → Nat → PA → Nat × PA
  | 0, i, q => (i, q)
  | k + 1, i, q => if (tkS q (cd i)).1 = true then feS cd k (i + 1) (tkS q (cd i)).2 else (i, (tkS q (cd i)).2)
theorem feS_ok {cd : Nat → Nat} : ∀ (k i : Nat) (q : PA), paOK q → paOK (feS cd k i q).2 ∧ (feS cd k i q).1 ≤ i + k := by
  intro k
  induction k with
  | zero => intro i q h; exact ⟨h, Nat.le_refl _⟩
  | succ k ih =>
    intro i q h
    rw [feS]
    split
    · have := ih (i + 1) _ (tkS_ok (k := cd i) h)
      exact ⟨this.1, by omega⟩
    · exact ⟨tkS_ok h, Nat.le_add_right _ _⟩
abbrev feT (cd : Nat → Nat) (ln : Nat) : Nat × PA := feS cd ln 0 (-1, 0, 0)
def ctS (cd : Nat → Nat) (ln : Nat) : Bool := decide ((feT cd ln).1 = ln ∧ cmI (feT cd ln).2 = true)
/-- a part's first mix, how many are sent, and what is then -/
def fmN (q : PA) : Nat := if q.1 = -1 then q.2.1 else q.1.toNatClampNeg
theorem fmN_I {q : PA} (h : paOK q) : (if q.1 = -1 then nI q.2.1 else q.1) = nI (fmN q) ∧ fmN q ≤ 9999 := by
  unfold fmN
  by_cases h1 : q.1 = -1
  · rw [if_pos h1, if_pos h1]; exact ⟨rfl, h.le⟩
  · rw [if_neg h1, if_neg h1]
    rcases h.2.2 with h2 | ⟨n, hn, h2⟩
    · exact absurd h2 h1
    · rw [h2, nI_clamp (by omega)]; exact ⟨rfl, hn⟩
def spN (q : PA) (mo : Nat) : Nat := if q.2.1 + 1 - fmN q ≤ mo then q.2.1 + 1 - fmN q else mo
def spZ : Nat → Nat → SS → SS
  | 0, _, z => z
  | n + 1, m, z => spZ n (m + 1) (sendZ z m)
theorem spZ_1 : ∀ (n m : Nat) (z : SS), (spZ n m z).1 = z.1 ∧ (spZ n m z).2.1 = z.2.1 := by
  intro n
  induction n with
  | zero => intro m z; exact ⟨rfl, rfl⟩
  | succ n ih => intro m z; exact ih (m + 1) (sendZ z m)
