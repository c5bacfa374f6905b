/-! what a receiver becomes when it gets the blocks m: known, got, told nothing, lost, waiting -/
abbrev MQ5 : Type := Nat × Int32 × Int32 × Int32 × List Nat
def getM (m : Nat) (q : MQ5) : MQ5 :=
  if pc (andn m q.1) = 1 then ((plM (knW (andn m q.1) q.2.2.2.2).length (q.1 ||| andn m q.1) q.2.2.1 (knW (andn m q.1) q.2.2.2.2)).1, q.2.1 + 1, (plM (knW (andn m q.1) q.2.2.2.2).length (q.1 ||| andn m q.1) q.2.2.1 (knW (andn m q.1) q.2.2.2.2)).2.1, q.2.2.2.1, (plM (knW (andn m q.1) q.2.2.2.2).length (q.1 ||| andn m q.1) q.2.2.1 (knW (andn m q.1) q.2.2.2.2)).2.2)
  else if pc (andn m q.1) = 0 then (q.1, q.2.1 + 1, q.2.2.1 + 1, q.2.2.2.1, q.2.2.2.2)
  else if q.2.2.2.2.length < 24 then (q.1, q.2.1 + 1, q.2.2.1, q.2.2.2.1, q.2.2.2.2 ++ [andn m q.1])
  else (q.1, q.2.1 + 1, q.2.2.1, q.2.2.2.1 + 1, q.2.2.2.2)
section
variable {m K : Nat} {go tn lo : Int32} {W : List Nat}
theorem getM_1 (h : pc (andn m K) = 1) : getM m (K, go, tn, lo, W) = ((plM (knW (andn m K) W).length (K ||| andn m K) tn (knW (andn m K) W)).1, go + 1, (plM (knW (andn m K) W).length (K ||| andn m K) tn (knW (andn m K) W)).2.1, lo, (plM (knW (andn m K) W).length (K ||| andn m K) tn (knW (andn m K) W)).2.2) := if_pos h
theorem getM_0 (h : pc (andn m K) = 0) : getM m (K, go, tn, lo, W) = (K, go + 1, tn + 1, lo, W) := by
  unfold getM
  rw [if_neg (by show ¬ pc (andn m K) = 1; omega), if_pos h]
theorem getM_w (h : ¬ pc (andn m K) ≤ 1) (h2 : W.length < 24) : getM m (K, go, tn, lo, W) = (K, go + 1, tn, lo, W ++ [andn m K]) := by
  unfold getM
  rw [if_neg (by show ¬ pc (andn m K) = 1; omega), if_neg (by show ¬ pc (andn m K) = 0; omega), if_pos h2]
theorem getM_l (h : ¬ pc (andn m K) ≤ 1) (h2 : ¬ W.length < 24) : getM m (K, go, tn, lo, W) = (K, go + 1, tn, lo + 1, W) := by
  unfold getM
  rw [if_neg (by show ¬ pc (andn m K) = 1; omega), if_neg (by show ¬ pc (andn m K) = 0; omega), if_neg h2]
end
theorem pushM_ok {K x : Nat} {W : List Nat} (h : wtO K W) (hl : W.length < 24) (hx : x < 4096) : wtO K (W ++ [x]) := by
  refine ⟨by rw [List.length_append, List.length_singleton]; omega, h.2.1, fun k hk => ?_⟩
  rw [List.length_append, List.length_singleton] at hk
  rw [List.getD_eq_getElem?_getD]
  by_cases e : k = W.length
  · subst e
    rw [List.getElem?_append_right (Nat.le_refl _), Nat.sub_self]
    exact hx
  · rw [List.getElem?_append_left (by omega), ← List.getD_eq_getElem?_getD]
    exact h.2.2 k (by omega)
theorem pushM_get {W : List Nat} {w : Nat → Int32} {x : Nat} (h : wtL W w) : wtL (W ++ [x]) (upd w W.length (nI x)) := by
  intro j hj
  rw [List.length_append, List.length_singleton] at hj
  rw [List.getD_eq_getElem?_getD]
  by_cases e : j = W.length
  · subst e
    rw [pk_us, List.getElem?_append_right (Nat.le_refl _), Nat.sub_self]
    rfl
  · rw [pk_un e, h j (by omega), List.getElem?_append_left (by omega), List.getD_eq_getElem?_getD]
/-! the waiting ones laid out: each has a lowest block that no other one has -/
theorem low_sp2 : ∀ u, u < 64 → ∀ v, v < 64 → (u * 64 + v = 0 ∨ (List.range 12).any (fun i => decide (low (u * 64 + v) = 2 ^ i ∧ (u * 64 + v) % 2 ^ i = 0 ∧ (u * 64 + v) / 2 ^ i % 2 = 1)) = true) := by decide +kernel
/-- the place of the lowest block -/
theorem low_sp {y : Nat} (h : y < 4096) (h0 : y ≠ 0) : ∃ i, i < 12 ∧ low y = 2 ^ i ∧ y.testBit i = true ∧ ∀ j, j < i → y.testBit j = false := by
  have h1 := low_sp2 (y / 64) (by omega) (y % 64) (by omega)
  rw [show y / 64 * 64 + y % 64 = y by omega] at h1
  rcases h1 with h1 | h1
  · exact absurd h1 h0
  · obtain ⟨i, hi, e⟩ := List.any_eq_true.mp h1
    obtain ⟨e1, e2, e3⟩ := of_decide_eq_true e
    refine ⟨i, List.mem_range.mp hi, e1, ?_, fun j hj => ?_⟩
    · rw [Nat.testBit_eq_decide_div_mod_eq, decide_eq_true e3]
    · have e4 : y = 2 ^ i * (y / 2 ^ i) := by
        have := Nat.div_add_mod y (2 ^ i)
        rw [e2] at this
        omega
      rw [e4, Nat.testBit_two_pow_mul, decide_eq_false (by omega : ¬ i ≤ j)]
      rfl
theorem and_pow {x i : Nat} : (x &&& 2 ^ i = 0) ↔ x.testBit i = false := by
  constructor
  · intro h
    have h1 : (x &&& 2 ^ i).testBit i = false := by rw [h]; exact Nat.zero_testBit i
    rw [Nat.testBit_and, Nat.testBit_two_pow, decide_eq_true rfl, Bool.and_true] at h1
    exact h1
  · intro h
    apply Nat.eq_of_testBit_eq
    intro j
    rw [Nat.testBit_and, Nat.testBit_two_pow, Nat.zero_testBit]
    by_cases e : i = j
    · rw [← e, h]; rfl
    · rw [decide_eq_false e, Bool.and_false]
def xS (x y : Nat) : Nat := if x &&& low y = 0 then x else x ^^^ y
def xr (R : List Nat) (m : Nat) : Nat := R.foldl xS m
def clr (x y : Nat) : Nat := if y &&& low x = 0 then y else y ^^^ x
def redS (R : List Nat) (m : Nat) : List Nat := if xr R m = 0 then R else R.map (clr (xr R m)) ++ [xr R m]
def redW (W : List Nat) : List Nat := W.foldl redS []
/-- each row has a lowest block that no other one has -/
def rIv (R : List Nat) : Prop := (∀ i, i < R.length → R.getD i 0 < 4096 ∧ R.getD i 0 ≠ 0) ∧ ∀ i j, i < R.length → j < R.length → i ≠ j → R.getD i 0 &&& low (R.getD j 0) = 0
theorem rIv_0 : rIv [] := ⟨fun i h => absurd h (Nat.not_lt_zero i), fun i j h => absurd h (Nat.not_lt_zero i)⟩
theorem pigeon : ∀ (n k : Nat) (f : Nat → Nat), n < k → (∀ i, i < k → f i < n) → ∃ i j, i < k ∧ j < k ∧ i ≠ j ∧ f i = f j := by
  intro n
  induction n with
  | zero => intro k f hk h; exact absurd (h 0 hk) (Nat.not_lt_zero _)
  | succ n ih =>
    intro k f hk h
    by_cases hx : ∃ i j, i < k ∧ j < k ∧ i ≠ j ∧ f i = f j
    · exact hx
    · exfalso
      have hinj : ∀ i j, i < k → j < k → f i = f j → i = j := fun i j hi hj e => Classical.byContradiction fun hne => hx ⟨i, j, hi, hj, hne, e⟩
      -- drop the last argument; swap its value out
      obtain ⟨i, j, hi, hj, hne, e⟩ := ih (k - 1) (fun i => if f i = n then f (k - 1) else f i) (by omega) (fun i hi => by
        have h1 := h i (by omega)
        have h2 := h (k - 1) (by omega)
        by_cases e : f i = n
        · show (if f i = n then f (k - 1) else f i) < n
          rw [if_pos e]
          have : f (k - 1) ≠ n := fun e2 => by have := hinj i (k - 1) (by omega) (by omega) (e.trans e2.symm); omega
          omega
        · show (if f i = n then f (k - 1) else f i) < n
          rw [if_neg e]
          omega)
      have e' : (if f i = n then f (k - 1) else f i) = (if f j = n then f (k - 1) else f j) := e
      by_cases h1 : f i = n <;> by_cases h2 : f j = n
      · exact hne (hinj i j (by omega) (by omega) (h1.trans h2.symm))
      · rw [if_pos h1, if_neg h2] at e'
        have := hinj (k - 1) j (by omega) (by omega) e'
        omega
      · rw [if_neg h1, if_pos h2] at e'
        have := hinj i (k - 1) (by omega) (by omega) e'
        omega
      · rw [if_neg h1, if_neg h2] at e'
        exact hne (hinj i j (by omega) (by omega) e')
theorem rIv_inj {R : List Nat} (h : rIv R) {i j k : Nat} (hi : i < R.length) (hj : j < R.length) (e1 : low (R.getD i 0) = 2 ^ k) (e2 : low (R.getD j 0) = 2 ^ k) : i = j := by
  refine Classical.byContradiction fun hne => ?_
  have h1 := h.2 i j hi hj hne
  rw [e2] at h1
  obtain ⟨k2, _, e3, e4, _⟩ := low_sp (h.1 i hi).1 (h.1 i hi).2
  rw [e1] at e3
  rw [e3] at h1
  rw [and_pow.mp h1] at e4
  exact absurd e4 (by decide)
theorem rIv_len {R : List Nat} (h : rIv R) : R.length ≤ 12 := by
  refine Classical.byContradiction fun hc => ?_
  have hex : ∀ i, ∃ k, i < R.length → (k < 12 ∧ low (R.getD i 0) = 2 ^ k) := fun i => by
    by_cases hi : i < R.length
    · obtain ⟨k, h1, h2, _⟩ := low_sp (h.1 i hi).1 (h.1 i hi).2
      exact ⟨k, fun _ => ⟨h1, h2⟩⟩
    · exact ⟨0, fun z => absurd z hi⟩
  obtain ⟨f, hf⟩ := Classical.axiomOfChoice hex
  obtain ⟨i, j, hi, hj, hne, e⟩ := pigeon 12 R.length f (by omega) (fun i hi => (hf i hi).1)
  exact hne (rIv_inj h hi hj (hf i hi).2 (by rw [(hf j hj).2, e]))
theorem xS_lt {x y : Nat} (hx : x < 4096) (hy : y < 4096) : xS x y < 4096 := by
  unfold xS
  split
  · exact hx
  · exact xor_lt hx hy
/-- behind the rows up to the place j, their lowest blocks are not left -/
theorem drop_getDN {L : List Nat} {i : Nat} (h : i < L.length) : L.drop i = L.getD i 0 :: L.drop (i + 1) := by
  rw [getDN h]
  exact List.drop_eq_getElem_cons h
theorem drop_foldN {σ : Type} {f : σ → Nat → σ} {L : List Nat} {i : Nat} {q r : σ} (h : i < L.length) (e : (L.drop i).foldl f q = r) : (L.drop (i + 1)).foldl f (f q (L.getD i 0)) = r := by
  rw [drop_getDN h, List.foldl_cons] at e
  exact e
theorem drop_endN {σ : Type} {f : σ → Nat → σ} {L : List Nat} {i : Nat} {q r : σ} (h : L.length ≤ i) (e : (L.drop i).foldl f q = r) : q = r := by
  rw [List.drop_eq_nil_of_le h] at e
  exact e
theorem xor_bit {x y i : Nat} : (x ^^^ y).testBit i = (x.testBit i ^^ y.testBit i) := Nat.testBit_xor x y i
theorem xr_fold {R : List Nat} (h : rIv R) : ∀ (k j x : Nat), j + k = R.length → x < 4096 → (∀ i, i < j → x &&& low (R.getD i 0) = 0) → (((R.drop j).foldl xS x < 4096) ∧ ∀ i, i < R.length → (R.drop j).foldl xS x &&& low (R.getD i 0) = 0) := by
  intro k
  induction k with
  | zero =>
    intro j x hj hx h2
    rw [List.drop_eq_nil_of_le (by omega)]
    exact ⟨hx, fun i hi => h2 i (by omega)⟩
  | succ k ih =>
    intro j x hj hx h2
    rw [drop_getDN (by omega), List.foldl_cons]
    have hjr := h.1 j (by omega)
    refine ih (j + 1) (xS x (R.getD j 0)) (by omega) (xS_lt hx hjr.1) fun i hi => ?_
    have hir := h.1 i (by omega)
    obtain ⟨a, ha, ea, ta, za⟩ := low_sp hir.1 hir.2
    rw [ea, and_pow]
    unfold xS
    by_cases e : i = j
    · subst e
      rw [ea]
      by_cases c : x &&& 2 ^ a = 0
      · rw [if_pos c]; exact and_pow.mp c
      · rw [if_neg c, xor_bit, ta]
        cases q : x.testBit a
        · exact absurd (and_pow.mpr q) c
        · rfl
    · have h3 := h2 i (by omega)
      rw [ea, and_pow] at h3
      have h4 := h.2 j i (by omega) (by omega) (Ne.symm e)
      rw [ea, and_pow] at h4
      split
      · exact h3
      · rw [xor_bit, h3, h4]; rfl
theorem xr_sp {R : List Nat} (h : rIv R) {m : Nat} (hm : m < 4096) : xr R m < 4096 ∧ ∀ i, i < R.length → xr R m &&& low (R.getD i 0) = 0 :=
  xr_fold h R.length 0 m (Nat.zero_add _) hm (fun i hi => absurd hi (Nat.not_lt_zero i))
/-- clearing a row keeps its lowest block -/
theorem clr_sp {x y a b : Nat} (hx : x < 4096) (hy : y < 4096) (ea : low y = 2 ^ a) (ta : y.testBit a = true) (za : ∀ j, j < a → y.testBit j = false) (eb : low x = 2 ^ b) (tb : x.testBit b = true) (zb : ∀ j, j < b → x.testBit j = false) (hxa : x.testBit a = false) :
    clr x y < 4096 ∧ low (clr x y) = 2 ^ a ∧ (clr x y).testBit a = true ∧ (clr x y).testBit b = false ∧ ∀ j, j < a → (clr x y).testBit j = false := by
  have hne : a ≠ b := fun e => by rw [e, tb] at hxa; exact absurd hxa (by decide)
  unfold clr
  rw [eb]
  by_cases c : y &&& 2 ^ b = 0
  · rw [if_pos c]
    exact ⟨hy, ea, ta, and_pow.mp c, za⟩
  · rw [if_neg c]
    have tyb : y.testBit b = true := by
      cases q : y.testBit b
      · exact absurd (and_pow.mpr q) c
      · rfl
    have hab : a < b := by
      refine Classical.byContradiction fun hc => ?_
      rw [za b (by omega)] at tyb
      exact absurd tyb (by decide)
    have h1 : (y ^^^ x).testBit a = true := by rw [xor_bit, ta, hxa]; rfl
    have h2 : ∀ j, j < a → (y ^^^ x).testBit j = false := fun j hj => by rw [xor_bit, za j hj, zb j (by omega)]; rfl
    have hlt := xor_lt hy hx
    obtain ⟨a2, _, e2, t2, z2⟩ := low_sp hlt (fun e => by rw [e] at h1; rw [Nat.zero_testBit] at h1; exact absurd h1 (by decide))
    have e3 : a2 = a := by
      rcases Nat.lt_trichotomy a a2 with q | q | q
      · rw [z2 a q] at h1; exact absurd h1 (by decide)
      · exact q.symm
      · rw [h2 a2 q] at t2; exact absurd t2 (by decide)
    refine ⟨hlt, by rw [e2, e3], h1, by rw [xor_bit, tyb, tb]; rfl, h2⟩
theorem redS_iv {R : List Nat} (h : rIv R) {m : Nat} (hm : m < 4096) : rIv (redS R m) := by
  unfold redS
  by_cases c : xr R m = 0
  · rw [if_pos c]; exact h
  rw [if_neg c]
  obtain ⟨hx, hxl⟩ := xr_sp h hm
  generalize xr R m = x at c hx hxl
  obtain ⟨b, hb, eb, tb, zb⟩ := low_sp hx c
  have g1 : ∀ i, i < R.length → (R.map (clr x) ++ [x]).getD i 0 = clr x (R.getD i 0) := fun i hi => by
    rw [List.getD_eq_getElem?_getD, List.getElem?_append_left (by rw [List.length_map]; exact hi), ← List.getD_eq_getElem?_getD, mapN_getD hi]
  have g2 : (R.map (clr x) ++ [x]).getD R.length 0 = x := by
    rw [List.getD_eq_getElem?_getD, List.getElem?_append_right (by rw [List.length_map]; exact Nat.le_refl _), List.length_map, Nat.sub_self]
    rfl
  have hl : (R.map (clr x) ++ [x]).length = R.length + 1 := by rw [List.length_append, List.length_map, List.length_singleton]
  have sp : ∀ i, i < R.length → ∃ a, low (R.getD i 0) = 2 ^ a ∧ (clr x (R.getD i 0) < 4096 ∧ low (clr x (R.getD i 0)) = 2 ^ a ∧ (clr x (R.getD i 0)).testBit a = true ∧ (clr x (R.getD i 0)).testBit b = false ∧ ∀ j, j < a → (clr x (R.getD i 0)).testBit j = false) ∧ x.testBit a = false := fun i hi => by
    obtain ⟨a, _, ea, ta, za⟩ := low_sp (h.1 i hi).1 (h.1 i hi).2
    have hxa := hxl i hi
    rw [ea, and_pow] at hxa
    exact ⟨a, ea, clr_sp hx (h.1 i hi).1 ea ta za eb tb zb hxa, hxa⟩
  constructor
  · intro i hi
    rw [hl] at hi
    by_cases e : i = R.length
    · rw [e, g2]; exact ⟨hx, c⟩
    · rw [g1 i (by omega)]
      obtain ⟨a, _, ⟨q1, _, q3, _⟩, _⟩ := sp i (by omega)
      exact ⟨q1, fun z => by rw [z, Nat.zero_testBit] at q3; exact absurd q3 (by decide)⟩
  · intro i j hi hj hne
    rw [hl] at hi hj
    by_cases ej : j = R.length
    · rw [ej, g2, g1 i (by omega), eb, and_pow]
      obtain ⟨a, _, ⟨_, _, _, q4, _⟩, _⟩ := sp i (by omega)
      exact q4
    · rw [g1 j (by omega)]
      obtain ⟨a, ea, ⟨_, q2, _, _, _⟩, q6⟩ := sp j (by omega)
      rw [q2, and_pow]
      by_cases ei : i = R.length
      · rw [ei, g2]; exact q6
      · rw [g1 i (by omega)]
        have h5 := h.2 i j (by omega) (by omega) hne
        rw [ea, and_pow] at h5
        unfold clr
        split
        · exact h5
        · rw [xor_bit, h5, q6]; rfl
theorem redS_len {R : List Nat} {m : Nat} (h : xr R m ≠ 0) : (redS R m).length = R.length + 1 := by
  unfold redS
  rw [if_neg h, List.length_append, List.length_map, List.length_singleton]
theorem red_room {R : List Nat} (h : rIv R) {m : Nat} (hm : m < 4096) (h0 : xr R m ≠ 0) : R.length < 12 := by
  have h1 := rIv_len (redS_iv h hm)
  rw [redS_len h0] at h1
  omega
theorem redW_fold : ∀ (L R : List Nat), rIv R → (∀ k, k < L.length → L.getD k 0 < 4096) → rIv (L.foldl redS R) := by
  intro L
  induction L with
  | nil => intro R h _; exact h
  | cons x L ih =>
    intro R h hL
    rw [List.foldl_cons]
    exact ih _ (redS_iv h (hL 0 (Nat.succ_pos _))) (fun k hk => hL (k + 1) (Nat.succ_lt_succ hk))
theorem redW_iv {W : List Nat} (h : ∀ k, k < W.length → W.getD k 0 < 4096) : rIv (redW W) := redW_fold W [] rIv_0 h
theorem clr_st {R : List Nat} {w : Nat → Int32} {x i : Nat} (h : ∀ j, j < R.length → w j = if j < i then nI (clr x (R.getD j 0)) else nI (R.getD j 0)) {v : Nat} (hv : v = clr x (R.getD i 0)) : ∀ j, j < R.length → upd w i (nI v) j = if j < i + 1 then nI (clr x (R.getD j 0)) else nI (R.getD j 0) := by
  intro j hj
  by_cases e : j = i
  · subst e
    rw [pk_us, if_pos (by omega), hv]
  · rw [pk_un e, h j hj]
    by_cases h2 : j < i
    · rw [if_pos h2, if_pos (by omega)]
    · rw [if_neg h2, if_neg (by omega)]
theorem red_put {R : List Nat} {w : Nat → Int32} {x i : Nat} (hi : R.length ≤ i) (h : ∀ j, j < R.length → w j = if j < i then nI (clr x (R.getD j 0)) else nI (R.getD j 0)) : ∀ j, j < (R.map (clr x) ++ [x]).length → upd w R.length (nI x) j = nI ((R.map (clr x) ++ [x]).getD j 0) := by
  intro j hj
  rw [List.length_append, List.length_map, List.length_singleton] at hj
  by_cases e : j = R.length
  · rw [e, pk_us, List.getD_eq_getElem?_getD, List.getElem?_append_right (by rw [List.length_map]; exact Nat.le_refl _), List.length_map, Nat.sub_self]
    rfl
  · rw [pk_un e, h j (by omega), if_pos (by omega)]
    congr 1
    rw [List.getD_eq_getElem?_getD (l := List.map (clr x) R ++ [x]), List.getElem?_append_left (by rw [List.length_map]; omega), ← List.getD_eq_getElem?_getD, mapN_getD (by omega)]
def alS (a y : Nat) : Nat := if pc y = 1 then a ||| y else a
def alnM (R : List Nat) : Nat := R.foldl alS 0
theorem alS_lt {a y : Nat} (ha : a < 4096) (hy : y < 4096) : alS a y < 4096 := by
  unfold alS
  split
  · exact or_lt ha hy
  · exact ha
theorem aln_fold : ∀ (L : List Nat) (a : Nat), a < 4096 → (∀ k, k < L.length → L.getD k 0 < 4096) → L.foldl alS a < 4096 := by
  intro L
  induction L with
  | nil => intro a h _; exact h
  | cons x L ih =>
    intro a h hL
    rw [List.foldl_cons]
    exact ih _ (alS_lt h (hL 0 (Nat.succ_pos _))) (fun k hk => hL (k + 1) (Nat.succ_lt_succ hk))
theorem alnM_lt {W : List Nat} (h : ∀ k, k < W.length → W.getD k 0 < 4096) : alnM (redW W) < 4096 := aln_fold _ 0 (by decide) (fun k hk => ((redW_iv h).1 k hk).1)
/-- elimination: known, told nothing, waiting -/
def elS (fo b : Nat) (q : Nat × Int32 × List Nat) : Nat × Int32 × List Nat := if fo.testBit b = true then (if q.1.testBit b = true then q else plM (knW (2 ^ b) q.2.2).length (q.1 ||| 2 ^ b) q.2.1 (knW (2 ^ b) q.2.2)) else q
def elM (nb fo : Nat) (q : Nat × Int32 × List Nat) : Nat × Int32 × List Nat := itr (elS fo) nb 0 q
theorem pow12 {b : Nat} (h : b < 12) : 2 ^ b < 4096 := Nat.pow_lt_pow_right (a := 2) (by decide) h
theorem elS_ok {fo b : Nat} (hb : b < 12) {q : Nat × Int32 × List Nat} (h : wtO q.1 q.2.2) : wtO (elS fo b q).1 (elS fo b q).2.2 := by
  unfold elS
  split
  · split
    · exact h
    · exact plM_ok _ _ _ _ (knW_ok h (pow12 hb))
  · exact h
theorem getM_ok {m : Nat} (hm : m < 4096) {q : MQ5} (h : wtO q.1 q.2.2.2.2) : wtO (getM m q).1 (getM m q).2.2.2.2 := by
  unfold getM
  split
  · exact plM_ok _ _ _ _ (knW_ok h (andn_lt hm))
  · split
    · exact h
    · split
      · next h2 => exact pushM_ok h h2 (andn_lt hm)
      · exact h
