theorem vin_lt {x : Int32} {n : Nat} (hn : n < 2 ^ 31) (h1 : ¬ x < 0) (h2 : x < nI n) : vp_in x n := by
  rcases pk_ix x hn with q | q | ⟨j, hj, rfl⟩
  · exact absurd q h1
  · exact absurd h2 (Int32.not_lt.mpr q)
  · exact vp_in_nI hj hn
theorem vin_lt2 {x : Int32} {n : Nat} (hn : n < 2 ^ 31) (h : vp_in x n) : x < nI n := by
  obtain ⟨j, hj, rfl⟩ := vp_in_of h hn
  exact nI_lt hj hn
theorem vin_le {x : Int32} {n : Nat} (hn : n + 1 < 2 ^ 31) (h1 : ¬ x < 0) (h2 : x ≤ nI n) : vp_in x (n + 1) := by
  rcases pk_ix x hn with q | q | ⟨j, hj, rfl⟩
  · exact absurd q h1
  · have h3 := Int32.le_trans q h2
    exact absurd h3 (nI_ge (Nat.lt_succ_self n) hn)
  · exact vp_in_nI hj hn
theorem vin_le2 {x : Int32} {n : Nat} (hn : n + 1 < 2 ^ 31) (h : vp_in x (n + 1)) : x ≤ nI n := by
  obtain ⟨j, hj, rfl⟩ := vp_in_of h hn
  exact nI_le (Nat.le_of_lt_succ hj) (by omega)
