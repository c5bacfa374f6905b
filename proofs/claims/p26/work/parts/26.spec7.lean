theorem vin_of {x : Int32} {n : Nat} (hn : n < 2 ^ 31) (h1 : ¬ x < 0) (h2 : ¬ nI n ≤ x) : vp_in x n := by
  rcases pk_ix x hn with q | q | ⟨j, hj, rfl⟩
  · exact absurd q h1
  · exact absurd q h2
  · exact vp_in_nI hj hn
theorem bI_0 {b : Bool} (h : bI b = 0) : b = false := by
  cases b with
  | false => rfl
  | true => exact absurd h (by decide)
theorem bI_1 {b : Bool} (h : ¬ bI b = 0) : b = true := by
  cases b with
  | false => exact absurd rfl h
  | true => rfl
/-- how many of the first n receivers p holds of -/
def cntR (p : RR → Bool) (rs : Nat → RR) : Nat → Nat
  | 0 => 0
  | n + 1 => cntR p rs n + (if p (rs n) then 1 else 0)
theorem cntR_y {p : RR → Bool} {rs : Nat → RR} {i : Nat} (h : p (rs i) = true) : cntR p rs i + 1 = cntR p rs (i + 1) := by
  rw [cntR, h]
  rfl
theorem cntR_n {p : RR → Bool} {rs : Nat → RR} {i : Nat} (h : p (rs i) = false) : cntR p rs i = cntR p rs (i + 1) := by
  rw [cntR, h]
  rfl
theorem cntR_le {p : RR → Bool} {rs : Nat → RR} : ∀ i, cntR p rs i ≤ i
  | 0 => Nat.le_refl 0
  | i + 1 => by
    have h := cntR_le (p := p) (rs := rs) i
    rw [cntR]
    by_cases q : p (rs i) = true
    · rw [if_pos q]; omega
    · rw [if_neg q]; omega
def isDn (nb : Nat) (r : RR) : Bool := decide (swar r.2.1 = nI nb)
def allT (va : Nat → Int32) (nb : Nat) : Int32 := itr (fun i v => v ^^^ va i) nb 0 0
/-- what a receiver brings and becomes when it gets a mix -/
def gotR (x : Int32) (r : RR) : RR := if r.1 then (r.1, (getS x r.2).2) else r
def sumR (x : Int32) (rs : Nat → RR) : Nat → Int32
  | 0 => 0
  | n + 1 => sumR x rs n + (if (rs n).1 then (getS x (rs n).2).1 else 0)
theorem gotR_n {x : Int32} {r : RR} (h : r.1 = false) : gotR x r = r := by
  unfold gotR
  rw [h]
  rfl
theorem gotR_y {x : Int32} {r : RR} (h : r.1 = true) : gotR x r = (r.1, (getS x r.2).2) := by
  unfold gotR
  rw [if_pos h]
theorem sumR_y {x : Int32} {rs : Nat → RR} {i : Nat} (h : (rs i).1 = true) : sumR x rs i + (getS x (rs i).2).1 = sumR x rs (i + 1) := by
  rw [sumR, if_pos h]
theorem sumR_n {x : Int32} {rs : Nat → RR} {i : Nat} (h : (rs i).1 = false) : sumR x rs i = sumR x rs (i + 1) := by
  rw [sumR, h]
  exact (Int32.add_zero _).symm
theorem dn_0 {nb : Nat} {r : RR} (h : (if swar r.2.1 = nI nb then (1 : Int32) else 0) = 0) : isDn nb r = false := by
  by_cases c : swar r.2.1 = nI nb
  · rw [if_pos c] at h
    exact absurd h (by decide)
  · exact decide_eq_false c
theorem dn_1 {nb : Nat} {r : RR} (h : ¬ (if swar r.2.1 = nI nb then (1 : Int32) else 0) = 0) : isDn nb r = true := by
  by_cases c : swar r.2.1 = nI nb
  · exact decide_eq_true c
  · rw [if_neg c] at h
    exact absurd rfl h
