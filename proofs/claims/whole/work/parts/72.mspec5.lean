theorem cutV_at (va : Nat → Int32) (n : Nat) : cutV va n n = va := by
  funext b
  unfold cutV
  by_cases h : b < n
  · rw [if_pos h, if_pos h]
  · rw [if_neg h]
/-- a state that was saved comes back -/
theorem mdQ_back {z : MS} {sv f : Nat → Int32} {o : Nat} (h : mdQ z (fun j => sv (o + j))) : ∃ rv, (∀ j, j < 104 → cpA sv o f 104 j = mdE z.1 z.2.1 z.2.2.1 rv j) ∧ mdO z rv := by
  obtain ⟨rv, h1, h2⟩ := h
  exact ⟨rv, fun j hj => by rw [cpA_lo hj]; exact h1 j hj, h2⟩
theorem kpK_eq {ke : Nat} (h : ke ≤ 6) : (if ke < 6 then ke else 5) + 1 = kpK ke := by
  unfold kpK
  split <;> omega
theorem kpK_le {ke : Nat} (h : ke ≤ 6) : kpK ke ≤ 6 := by
  unfold kpK
  split <;> omega
theorem va_up_li {rc : Nat → MR} {u : Nat} {b c : Bool} (h : b = c) : va_up rc u (b, (rc u).2) = va_up rc u (c, (rc u).2) := by rw [h]
