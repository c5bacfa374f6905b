def knownF (r : RR) (b : Nat) : Int32 := if hldI r.2.1 (nI b) = 0 then -1 else r.2.2.1 b >>> ((12 : Int32) &&& 31)
def mixF (z : SS) (k j : Nat) : Int32 := if j = 0 then bcI (mixS z.1 z.2.1 k) else if j = 1 then mixS z.1 z.2.1 k &&& 4095 else mixS z.1 z.2.1 k >>> ((12 : Int32) &&& 31)
def countF (z : SS) (ke j : Nat) : Int32 := if j = 0 then nI z.1 else if j = 1 then z.2.2.1 else if j = 2 then nI (cntR (fun r => r.1) z.2.2.2 3) else if j = 3 then nI (cntR (isDn z.1) z.2.2.2 3) else if j = 4 then allT z.2.1 z.1 else nI ke
def numF (nb : Nat) (r : RR) (j : Nat) : Int32 := if j = 0 then bI r.1 else if j = 1 then swar r.2.1 else if j = 2 then r.2.1 else if j = 3 then nI r.2.2.2.1.length else if j = 4 then r.2.2.2.2.1 else if j = 5 then r.2.2.2.2.2.1 else if j = 6 then r.2.2.2.2.2.2 else if j = 7 then bI (isDn nb r) else swar r.2.1 + (lookS r.2.2.2.1).2
def waitF (r : RR) (q j : Nat) : Int32 := if r.2.2.2.1.length ≤ q then -1 else if j = 0 then r.2.2.2.1.getD q 0 &&& 4095 else r.2.2.2.1.getD q 0 >>> ((12 : Int32) &&& 31)
theorem stR.set1 {E : wE} {g : Nat → Nat} {rs : Nat → RR} {H H1 : Heap} (h : stR E g rs H) (hI : wI 12 g) {i : Nat} (hi : i < 3) {k : Nat} (hk : k < 3) (ho : ∀ q : Nat, q ≠ rg g i k → H1[q]? = H[q]?) {r : RR} (h1 : rcT E (rg g i) r.1 r.2 H1) : stR E g (va_up rs i r) H1 :=
  h.set hI hi (fun q _ hq => ho q (fun e => hq ⟨k, hk, e⟩)) h1
theorem if_bI {b : Bool} : (if bI b = 0 then (0 : Int32) else 1) = bI b := by cases b <;> rfl
theorem isDn_I {nb : Nat} {r : RR} : (if swar r.2.1 = nI nb then (1 : Int32) else 0) = bI (isDn nb r) := by
  by_cases c : swar r.2.1 = nI nb
  · rw [if_pos c, show isDn nb r = true from decide_eq_true c]; rfl
  · rw [if_neg c, show isDn nb r = false from decide_eq_false c]; rfl
theorem off_inrE {g : Nat → Nat} {i : Nat} (hi : i < 3) : ∀ q, (wF 3 (rg (off g 8) i) q ∨ wF 2 (off g 3) q) → wF 94 g q := fun q z => z.elim (off_inr hi q) (off_in (o := 3) (n := 2) (by decide) q)
theorem stP.setE {E : wE} {g : Nat → Nat} {nb : Nat} {va : Nat → Int32} {se : Int32} {rs : Nat → RR} {H H1 : Heap} {i : Nat} (hI : wI 94 g) (h : stP E (off g 8) nb va se rs H) (hi : i < 3) (hk : ∀ q : Nat, q < H.size → ¬ (wF 3 (rg (off g 8) i) q ∨ wF 2 (off g 3) q) → H1[q]? = H[q]?) {r : RR} (h1 : rcT E (rg (off g 8) i) r.1 r.2 H1) : stP E (off g 8) nb va se (va_up rs i r) H1 := by
  have hJ : wI 12 (off g 8) := off_I hI (by decide)
  have hX : wX 12 (off g 8) 2 (off g 3) := off_X hI (by decide) (by decide) (by decide)
  refine ⟨h.1.other hk (fun k hk2 z => z.elim (rg_main hJ hi k hk2) (hX.out k (by omega))), fun j hj => ?_⟩
  by_cases e : j = i
  · subst e
    unfold va_up
    rw [if_pos rfl]
    exact h1
  · unfold va_up
    rw [if_neg e]
    exact (h.2 j hj).other hk (fun k hk2 z => z.elim (rg_rg hJ hi hj e k hk2) (hX.out (3 + 3 * j + k) (by omega)))
