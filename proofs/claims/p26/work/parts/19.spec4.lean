def lookS (L : List Int32) : ES := L.foldl (fun q x => addS x q) ((fun _ => 0), 0)
theorem drop_getD {L : List Int32} {i : Nat} (h : i < L.length) : L.drop i = L.getD i 0 :: L.drop (i + 1) := by
  rw [getD_of_lt h]
  exact List.drop_eq_getElem_cons h
theorem drop_fold {σ : Type} {f : σ → Int32 → σ} {L : List Int32} {i : Nat} {q r : σ} (h : i < L.length) (e : (L.drop i).foldl f q = r) : (L.drop (i + 1)).foldl f (f q (L.getD i 0)) = r := by
  rw [drop_getD h, List.foldl_cons] at e
  exact e
theorem drop_end {σ : Type} {f : σ → Int32 → σ} {L : List Int32} {i : Nat} {q r : σ} (h : L.length ≤ i) (e : (L.drop i).foldl f q = r) : q = r := by
  rw [List.drop_eq_nil_of_le h] at e
  exact e
def tellsI (y : Int32) (b : Nat) : Int32 := if y &&& 4095 = (1 : Int32) <<< (nI b &&& 31) then 1 else 0
def findB (e : Nat → Int32) (b : Nat) (q : PQ) : PQ := if tellsI (e b) b = 0 then q else if hldI q.1 (nI b) = 0 then
  ((peelS q.2.2.1.length (e b) (q.1, q.2.1, q.2.2.1, q.2.2.2.1, 0)).1, (peelS q.2.2.1.length (e b) (q.1, q.2.1, q.2.2.1, q.2.2.2.1, 0)).2.1, (peelS q.2.2.1.length (e b) (q.1, q.2.1, q.2.2.1, q.2.2.2.1, 0)).2.2.1, (peelS q.2.2.1.length (e b) (q.1, q.2.1, q.2.2.1, q.2.2.2.1, 0)).2.2.2.1, q.2.2.2.2 + (peelS q.2.2.1.length (e b) (q.1, q.2.1, q.2.2.1, q.2.2.2.1, 0)).2.2.2.2) else q
theorem findB_n {e : Nat → Int32} {b : Nat} {q : PQ} (h : tellsI (e b) b = 0) : findB e b q = q := if_pos h
theorem findB_k {e : Nat → Int32} {b : Nat} {q : PQ} (h2 : ¬ hldI q.1 (nI b) = 0) : findB e b q = q := by
  unfold findB
  rw [if_neg h2]
  exact ite_self q
theorem findB_y {e : Nat → Int32} {b : Nat} {q : PQ} (h : ¬ tellsI (e b) b = 0) (h2 : hldI q.1 (nI b) = 0) : findB e b q = ((peelS q.2.2.1.length (e b) (q.1, q.2.1, q.2.2.1, q.2.2.2.1, 0)).1, (peelS q.2.2.1.length (e b) (q.1, q.2.1, q.2.2.1, q.2.2.2.1, 0)).2.1, (peelS q.2.2.1.length (e b) (q.1, q.2.1, q.2.2.1, q.2.2.2.1, 0)).2.2.1, (peelS q.2.2.1.length (e b) (q.1, q.2.1, q.2.2.1, q.2.2.2.1, 0)).2.2.2.1, q.2.2.2.2 + (peelS q.2.2.1.length (e b) (q.1, q.2.1, q.2.2.1, q.2.2.2.1, 0)).2.2.2.2) := by
  unfold findB
  rw [if_neg h, if_pos h2]
def findS (q : RS) : PQ := itr (findB (lookS q.2.2.1).1) 12 0 (q.1, q.2.1, q.2.2.1, q.2.2.2.2.1, 0)
/-- two worlds apart -/
def wX (n : Nat) (g : Nat → Nat) (n2 : Nat) (g2 : Nat → Nat) : Prop := ∀ i j, i < n → j < n2 → g i ≠ g2 j
theorem wX.out {n n2 : Nat} {g g2 : Nat → Nat} (h : wX n g n2 g2) : ∀ k, k < n → ¬ wF n2 g2 (g k) := fun k hk ⟨j, hj, e⟩ => h k j hk hj e
theorem wX.symm {n n2 : Nat} {g g2 : Nat → Nat} (h : wX n g n2 g2) : wX n2 g2 n g := fun i j hi hj e => h j i hj hi e.symm
theorem wI0 {g : Nat → Nat} : wI 0 g := fun i j h => absurd h (Nat.not_lt_zero i)
