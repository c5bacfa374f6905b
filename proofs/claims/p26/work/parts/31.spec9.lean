/-! one part of a text, as far as it is read: first number (-1: none), number, digits -/
def paF (fi : Int32) (nu di : Nat) : Nat → va_E := fun _ => .inr (2, [.int fi, .int (nI nu), .int (nI di)])
theorem pa_ne {fi fi' : Int32} {nu nu' di di' : Nat} : ∀ j, j < 1 → j ≠ 0 → paF fi' nu' di' j = paF fi nu di j := fun j h h2 => absurd (by omega) h2
abbrev PA : Type := Int32 × Nat × Nat
def paP (E : wE) (g : Nat → Nat) (q : PA) (H : Heap) : Prop := wP E 1 g (paF q.1 q.2.1 q.2.2) H
def gw9 : Nat → Nat → Nat
  | 0, b => b
  | n + 1, b => gw9 n (b * 10 + 9)
def grN (b d : Nat) : Nat := if b = 0 then 0 else gw9 (4 - d) b
def tkD (q : PA) (d : Nat) : Bool × PA :=
  if 0 < q.2.2 ∧ q.2.1 = 0 then (false, q) else if 4 ≤ q.2.2 then (false, q) else if q.1 ≤ nI (grN (q.2.1 * 10 + d) (q.2.2 + 1)) then (true, q.1, q.2.1 * 10 + d, q.2.2 + 1) else (false, q)
def cmI (q : PA) : Bool := decide (0 < q.2.2 ∧ ¬ nI q.2.1 < q.1)
def tkS (q : PA) (k : Nat) : Bool × PA :=
  if 48 ≤ k ∧ k ≤ 57 then tkD q (k - 48) else if k = 45 then (if 0 < q.2.2 ∧ q.1 = -1 then (true, nI q.2.1, 0, 0) else (false, q)) else if k = 44 then (if cmI q = true then (true, -1, 0, 0) else (false, q)) else (false, q)
theorem bI_eq {c : Prop} [Decidable c] (h : c) : (1 : Int32) = bI (decide c) := by rw [decide_eq_true h]; rfl
theorem bI_ne {c : Prop} [Decidable c] (h : ¬ c) : (0 : Int32) = bI (decide c) := by rw [decide_eq_false h]; rfl
theorem tkD_lz {q : PA} {d : Nat} (h : 0 < q.2.2 ∧ q.2.1 = 0) : tkD q d = (false, q) := if_pos h
theorem tkD_4 {q : PA} {d : Nat} (h : 4 ≤ q.2.2) : tkD q d = (false, q) := by
  unfold tkD
  rw [if_pos h]
  exact ite_self _
theorem tkD_g {q : PA} {d : Nat} (h : ¬ q.1 ≤ nI (grN (q.2.1 * 10 + d) (q.2.2 + 1))) : tkD q d = (false, q) := by
  unfold tkD
  rw [if_neg h, ite_self]
  exact ite_self _
theorem tkD_y {q : PA} {d : Nat} (h1 : ¬ (0 < q.2.2 ∧ q.2.1 = 0)) (h2 : ¬ 4 ≤ q.2.2) (h3 : q.1 ≤ nI (grN (q.2.1 * 10 + d) (q.2.2 + 1))) : tkD q d = (true, q.1, q.2.1 * 10 + d, q.2.2 + 1) := by
  unfold tkD
  rw [if_neg h1, if_neg h2, if_pos h3]
theorem tkS_d {q : PA} {k : Nat} (h : 48 ≤ k ∧ k ≤ 57) : tkS q k = tkD q (k - 48) := if_pos h
theorem tkS_my {q : PA} {k : Nat} (h : k = 45) (h2 : 0 < q.2.2 ∧ q.1 = -1) : tkS q k = (true, nI q.2.1, 0, 0) := by
  unfold tkS
  rw [if_neg (by omega), if_pos h, if_pos h2]
theorem tkS_mn {q : PA} {k : Nat} (h : k = 45) (h2 : ¬ (0 < q.2.2 ∧ q.1 = -1)) : tkS q k = (false, q) := by
  unfold tkS
  rw [if_neg (by omega), if_pos h, if_neg h2]
theorem tkS_cy {q : PA} {k : Nat} (h : k = 44) (h2 : cmI q = true) : tkS q k = (true, -1, 0, 0) := by
  unfold tkS
  rw [if_neg (by omega), if_neg (by omega), if_pos h, if_pos h2]
theorem tkS_cn {q : PA} {k : Nat} (h : k = 44) (h2 : cmI q = false) : tkS q k = (false, q) := by
  unfold tkS
  rw [if_neg (by omega), if_neg (by omega), if_pos h, h2]
  rfl
theorem tkS_o {q : PA} {k : Nat} (h : ¬ (48 ≤ k ∧ k ≤ 57)) (h1 : ¬ k = 45) (h2 : ¬ k = 44) : tkS q k = (false, q) := by
  unfold tkS
  rw [if_neg h, if_neg h1, if_neg h2]
