theorem stP.setT {E : wE} {g : Nat → Nat} {nb : Nat} {va : Nat → Int32} {se : Int32} {rs : Nat → RR} {H H1 : Heap} {i : Nat} (hI : wI 94 g) (h : stP E (off g 8) nb va se rs H) (hi : i < 3) (hk : ∀ q : Nat, q < H.size → ¬ (wF 3 (off g 5) q ∨ wF 3 (rg (off g 8) i) q) → H1[q]? = H[q]?) (h1 : rcT E (rg (off g 8) i) (rs i).1 (rs i).2 H1) : stP E (off g 8) nb va se rs H1 := by
  have hJ : wI 12 (off g 8) := off_I hI (by decide)
  have hX : wX 12 (off g 8) 3 (off g 5) := off_X hI (by decide) (by decide) (by decide)
  refine ⟨h.1.other hk (fun k hk2 z => z.elim (hX.out k (by omega)) (rg_main hJ hi k hk2)), fun j hj => ?_⟩
  by_cases e : j = i
  · subst e
    exact h1
  · exact (h.2 j hj).other hk (fun k hk2 z => z.elim (hX.out (3 + 3 * j + k) (by omega)) (rg_rg hJ hi hj e k hk2))
theorem off_inTR {g : Nat → Nat} {i : Nat} (hi : i < 3) : ∀ q, (wF 3 (off g 5) q ∨ wF 3 (rg (off g 8) i) q) → wF 94 g q := fun q z => z.elim (off_in (o := 5) (n := 3) (by decide) q) (off_inr hi q)
def rankQ (q : RS) : Int32 := swar q.1 + (lookS q.2.2.1).2
def helpB (z : SS) (r : RR) (k : Nat) : Bool := decide (bcI (leftOf r.2.2.1 (mixS z.1 z.2.1 k)) = 1)
def nhS (p : Nat → Bool) : Nat → Nat → Int32
  | 0, _ => -1
  | n + 1, k => if p k = true then nI k else nhS p n (k + 1)
def nhN (fr : Nat) : Nat := if fr + 100 ≤ 10000 then 100 else 10000 - fr
def isDnQ (nb : Nat) (q : RS) : Bool := decide (swar q.1 = nI nb)
def elimQ (q : RS) : RS := ((findS q).1, (findS q).2.1, (findS q).2.2.1, q.2.2.2.1, (findS q).2.2.2.1, q.2.2.2.2.2)
def stepQ (z : SS) (fr : Nat) (el : Bool) (tk : Nat) (q : RS) : RS := if el = true then elimQ (getS (mixS z.1 z.2.1 (fr + tk)) q).2 else (getS (mixS z.1 z.2.1 (fr + tk)) q).2
def ndS (z : SS) (fr : Nat) (el : Bool) : Nat → Nat → RS → Int32
  | 0, _, q => if isDnQ z.1 q = true then nI 100 else -1
  | n + 1, tk, q => if isDnQ z.1 q = true then nI tk else ndS z fr el n (tk + 1) (stepQ z fr el tk q)
theorem isDnQ_I {nb : Nat} {q : RS} : (if swar q.1 = nI nb then (1 : Int32) else 0) = bI (isDnQ nb q) := by
  by_cases c : swar q.1 = nI nb
  · rw [if_pos c, show isDnQ nb q = true from decide_eq_true c]; rfl
  · rw [if_neg c, show isDnQ nb q = false from decide_eq_false c]; rfl
