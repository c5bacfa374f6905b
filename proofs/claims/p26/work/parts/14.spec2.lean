theorem fshort_lt {L : List Int32} {p : Nat} (h : fshort L = some p) : p < L.length := by
  obtain ⟨h1, -⟩ := List.findIdx?_eq_some_iff_getElem.mp h
  exact h1
theorem getD_of_lt {L : List Int32} {j : Nat} (h : j < L.length) : L.getD j 0 = L[j] := by
  rw [List.getD_eq_getElem?_getD, List.getElem?_eq_getElem h]
  rfl
theorem fshort_some {L : List Int32} {i : Nat} (hi : i < L.length) (h1 : isShort (L.getD i 0) = true) (h2 : ∀ j, j < i → isShort (L.getD j 0) = false) : fshort L = some i := by
  refine List.findIdx?_eq_some_iff_getElem.mpr ⟨hi, ?_, ?_⟩
  · rw [getD_of_lt hi] at h1
    exact h1
  · intro j hj
    have h3 := h2 j hj
    rw [getD_of_lt (Nat.lt_trans hj hi)] at h3
    rw [h3]
    decide
theorem fshort_none {L : List Int32} (h2 : ∀ j, j < L.length → isShort (L.getD j 0) = false) : fshort L = none := by
  refine List.findIdx?_eq_none_iff.mpr fun y hy => ?_
  obtain ⟨j, hj, rfl⟩ := List.getElem_of_mem hy
  have h3 := h2 j hj
  rw [getD_of_lt hj] at h3
  exact h3
theorem sh_t {y : Int32} (h : ¬ (2 : Int32) ≤ bcI y) : isShort y = true := decide_eq_true h
theorem sh_f {y : Int32} (h : (2 : Int32) ≤ bcI y) : isShort y = false := decide_eq_false (fun z => z h)
theorem fsI_n {L : List Int32} (h : fshort L = none) : fsI L = -1 := by unfold fsI; rw [h]
theorem fsI_s {L : List Int32} {p : Nat} (h : fshort L = some p) : fsI L = nI p := by unfold fsI; rw [h]
theorem er_len {L : List Int32} {p : Nat} (h : p < L.length) : (L.eraseIdx p).length = L.length - 1 := List.length_eraseIdx_of_lt h
theorem er_get (L : List Int32) (p j : Nat) : (L.eraseIdx p).getD j 0 = if j < p then L.getD j 0 else L.getD (j + 1) 0 := by
  rw [List.getD_eq_getElem?_getD, List.getElem?_eraseIdx]
  by_cases h : j < p
  · rw [if_pos h, if_pos h, List.getD_eq_getElem?_getD]
  · rw [if_neg h, if_neg h, List.getD_eq_getElem?_getD]
theorem er_step {L : List Int32} {lf : Nat → Int32} {p i : Nat} (hp : p ≤ i) (h : ∀ j, j < L.length → lf j = if j < i then (L.eraseIdx p).getD j 0 else L.getD j 0) {v : Int32} (hv : v = L.getD (i + 1) 0) : ∀ j, j < L.length → upd lf i v j = if j < i + 1 then (L.eraseIdx p).getD j 0 else L.getD j 0 := by
  intro j hj
  by_cases e : j = i
  · subst e
    rw [pk_us, if_pos (by omega), er_get, if_neg (by omega), hv]
  · rw [pk_un e, h j hj]
    by_cases h2 : j < i
    · rw [if_pos h2, if_pos (by omega)]
    · rw [if_neg h2, if_neg (by omega)]
theorem er_0 {L : List Int32} {lf : Nat → Int32} {p : Nat} (h : ∀ j, j < L.length → lf j = L.getD j 0) : ∀ j, j < L.length → lf j = if j < p then (L.eraseIdx p).getD j 0 else L.getD j 0 := by
  intro j hj
  rw [h j hj]
  by_cases h2 : j < p
  · rw [if_pos h2, er_get, if_pos h2]
  · rw [if_neg h2]
theorem er_end {L : List Int32} {lf : Nat → Int32} {p i : Nat} (hp : p < L.length) (hi : L.length ≤ i + 1) (h : ∀ j, j < L.length → lf j = if j < i then (L.eraseIdx p).getD j 0 else L.getD j 0) : ∀ j, j < (L.eraseIdx p).length → lf j = (L.eraseIdx p).getD j 0 := by
  intro j hj
  rw [er_len hp] at hj
  rw [h j (by omega), if_pos (by omega)]
def lrnAi (x : Int32) (al : Nat → Int32) (i : Nat) : Nat → Int32 := fun b => if b < i then (if hldI x (nI b) = 0 then al b else x) else al b
theorem lrnAi_0 (x : Int32) (al : Nat → Int32) : lrnAi x al 0 = al := by
  funext b
  unfold lrnAi
  rw [if_neg (Nat.not_lt_zero b)]
theorem lrnAi_z {x : Int32} {al : Nat → Int32} {i : Nat} (h : hldI x (nI i) = 0) : lrnAi x al i = lrnAi x al (i + 1) := by
  funext b
  unfold lrnAi
  by_cases e : b = i
  · subst e
    rw [if_neg (Nat.lt_irrefl b), if_pos (Nat.lt_succ_self b), if_pos h]
  · by_cases h2 : b < i
    · rw [if_pos h2, if_pos (Nat.lt_succ_of_lt h2)]
    · rw [if_neg h2, if_neg (show ¬ b < i + 1 by omega)]
theorem lrnAi_y {x : Int32} {al : Nat → Int32} {i : Nat} (h : ¬ hldI x (nI i) = 0) : upd (lrnAi x al i) i x = lrnAi x al (i + 1) := by
  funext b
  by_cases e : b = i
  · subst e
    rw [pk_us]
    unfold lrnAi
    rw [if_pos (Nat.lt_succ_self b), if_neg h]
  · rw [pk_un e]
    unfold lrnAi
    by_cases h2 : b < i
    · rw [if_pos h2, if_pos (Nat.lt_succ_of_lt h2)]
    · rw [if_neg h2, if_neg (show ¬ b < i + 1 by omega)]
theorem lrn_st {L : List Int32} {lf : Nat → Int32} {x : Int32} {i : Nat} (h : ∀ j, j < L.length → lf j = if j < i then lrn x (L.getD j 0) else L.getD j 0) {v : Int32} (hv : v = lrn x (L.getD i 0)) : ∀ j, j < L.length → upd lf i v j = if j < i + 1 then lrn x (L.getD j 0) else L.getD j 0 := by
  intro j hj
  by_cases e : j = i
  · subst e
    rw [pk_us, if_pos (by omega), hv]
  · rw [pk_un e, h j hj]
    by_cases h2 : j < i
    · rw [if_pos h2, if_pos (by omega)]
    · rw [if_neg h2, if_neg (by omega)]
theorem lrn_sk {L : List Int32} {lf : Nat → Int32} {x : Int32} {i : Nat} (h : ∀ j, j < L.length → lf j = if j < i then lrn x (L.getD j 0) else L.getD j 0) (hv : L.getD i 0 = lrn x (L.getD i 0)) : ∀ j, j < L.length → lf j = if j < i + 1 then lrn x (L.getD j 0) else L.getD j 0 := by
  intro j hj
  rw [h j hj]
  by_cases e : j = i
  · subst e
    rw [if_neg (Nat.lt_irrefl j), if_pos (Nat.lt_succ_self j)]
    exact hv
  · by_cases h2 : j < i
    · rw [if_pos h2, if_pos (by omega)]
    · rw [if_neg h2, if_neg (by omega)]
theorem map_getD {L : List Int32} {f : Int32 → Int32} {j : Nat} (h : j < L.length) : (L.map f).getD j 0 = f (L.getD j 0) := by
  rw [getD_of_lt h, getD_of_lt (by rw [List.length_map]; exact h), List.getElem_map]
theorem lrn_end {L : List Int32} {lf : Nat → Int32} {x : Int32} {i : Nat} (hi : L.length ≤ i) (h : ∀ j, j < L.length → lf j = if j < i then lrn x (L.getD j 0) else L.getD j 0) : ∀ j, j < (L.map (lrn x)).length → lf j = (L.map (lrn x)).getD j 0 := by
  intro j hj
  rw [List.length_map] at hj
  rw [h j hj, if_pos (by omega), map_getD hj]
/-- known bits, single blocks, waiting, told nothing, found -/
abbrev PQ : Type := Int32 × (Nat → Int32) × List Int32 × Int32 × Int32
def eatS (x : Int32) (q : PQ) : PQ := if x &&& 4095 = 0 then (q.1, q.2.1, q.2.2.1, q.2.2.2.1 + 1, q.2.2.2.2) else (q.1 ||| (x &&& 4095), lrnA x q.2.1, q.2.2.1.map (lrn x), q.2.2.2.1, q.2.2.2.2 + 1)
def peelS : Nat → Int32 → PQ → PQ
  | 0, x, q => eatS x q
  | n + 1, x, q => match fshort (eatS x q).2.2.1 with
    | none => eatS x q
    | some p => peelS n ((eatS x q).2.2.1.getD p 0) ((eatS x q).1, (eatS x q).2.1, (eatS x q).2.2.1.eraseIdx p, (eatS x q).2.2.2.1, (eatS x q).2.2.2.2)
theorem eatS_z {x : Int32} (h : x &&& 4095 = 0) (q : PQ) : eatS x q = (q.1, q.2.1, q.2.2.1, q.2.2.2.1 + 1, q.2.2.2.2) := if_pos h
theorem eatS_n {x : Int32} (h : ¬ x &&& 4095 = 0) (q : PQ) : eatS x q = (q.1 ||| (x &&& 4095), lrnA x q.2.1, q.2.2.1.map (lrn x), q.2.2.2.1, q.2.2.2.2 + 1) := if_neg h
theorem peelS_none {n : Nat} {x : Int32} {q q2 : PQ} (e : eatS x q = q2) (h : fshort q2.2.2.1 = none) : peelS n x q = q2 := by
  subst e
  cases n with
  | zero => rfl
  | succ n => unfold peelS; rw [h]
theorem peelS_some {n p : Nat} {x : Int32} {q q2 : PQ} (e : eatS x q = q2) (h : fshort q2.2.2.1 = some p) : peelS (n + 1) x q = peelS n (q2.2.2.1.getD p 0) (q2.1, q2.2.1, q2.2.2.1.eraseIdx p, q2.2.2.2.1, q2.2.2.2.2) := by
  subst e
  rw [peelS, h]
