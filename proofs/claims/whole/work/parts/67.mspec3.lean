/-! the reference's three receivers, what stands aside, what is saved -/
def rvP (q : MR) (h : Nat → Int32) : Prop := ∃ w : Nat → Int32, h = rvE q.1 q.2.1 q.2.2.1 q.2.2.2.1 q.2.2.2.2.1 q.2.2.2.2.2.length w ∧ wtL q.2.2.2.2.2 w ∧ wtO q.2.1 q.2.2.2.2.2
theorem rvP_up {rc : Nat → MR} {rv : Nat → Nat → Int32} {u : Nat} {q : MR} {h : Nat → Int32} (hrv : ∀ i, i < 3 → rvP (rc i) (rv i)) (hq : rvP q h) : ∀ i, i < 3 → rvP (va_up rc u q i) (va_up rv u h i) := by
  intro i hi
  by_cases e : i = u
  · rw [e, va_up_at, va_up_at]; exact hq
  · rw [va_up_ne _ _ e, va_up_ne _ _ e]; exact hrv i hi
theorem rvP_id {rc : Nat → MR} {rv : Nat → Nat → Int32} {u : Nat} {h : Nat → Int32} (hrv : ∀ i, i < 3 → rvP (rc i) (rv i)) (hq : rvP (rc u) h) : ∀ i, i < 3 → rvP (rc i) (va_up rv u h i) := by
  intro i hi
  by_cases e : i = u
  · rw [e, va_up_at]; exact hq
  · rw [va_up_ne _ _ e]; exact hrv i hi
def moZ (E : wE) (g : Nat → Nat) (th : Int32) (sv : Nat → Int32) (sm : Nat) (tx : Nat → Int32) (ln : Nat) (ai : Nat) (wr : Bool) (dg : Int64) (nb : Nat) (va : Nat → Int32) (se : Int32) (rc : Nat → MR) (H : Heap) : Prop :=
  ∃ (aa ro : Nat → Int32) (rv : Nat → Nat → Int32), wP E 6 g (moF E g th (mdE nb va se rv) aa sv sm tx ln ro ai wr dg) H ∧ ∀ i, i < 3 → rvP (rc i) (rv i)
/-- the first n of them are told f -/
def mapQ {α : Type} (f : α → α) (rs : Nat → α) (i : Nat) : Nat → α := fun j => if j < i then f (rs j) else rs j
theorem mapQ_0 {α : Type} (f : α → α) (rs : Nat → α) : mapQ f rs 0 = rs := by
  funext j
  unfold mapQ
  rw [if_neg (Nat.not_lt_zero j)]
theorem mapQ_at {α : Type} {f : α → α} {rs : Nat → α} {i : Nat} : mapQ f rs i i = rs i := by
  unfold mapQ
  rw [if_neg (Nat.lt_irrefl i)]
theorem mapQ_s {α : Type} {f : α → α} {rs : Nat → α} {i : Nat} : va_up (mapQ f rs i) i (f (rs i)) = mapQ f rs (i + 1) := by
  funext j
  unfold va_up mapQ
  by_cases e : j = i
  · subst e
    rw [if_pos rfl, if_pos (Nat.lt_succ_self j)]
  · rw [if_neg e]
    by_cases h2 : j < i
    · rw [if_pos h2, if_pos (Nat.lt_succ_of_lt h2)]
    · rw [if_neg h2, if_neg (show ¬ j < i + 1 by omega)]
theorem mapQ_n {α : Type} {f : α → α} {rs : Nat → α} {i : Nat} (h : f (rs i) = rs i) : mapQ f rs i = mapQ f rs (i + 1) := by
  rw [← mapQ_s, h]
  conv => rhs; arg 3; rw [← mapQ_at (f := f) (rs := rs) (i := i)]
  exact (va_up_id _ _).symm
def fgM (q : MR) : MR := (q.1, 0, q.2.2.1, q.2.2.2.1, q.2.2.2.2.1, [])
def gotM (m : Nat) (q : MR) : MR := if q.1 = true then (true, getM m q.2) else q
def gtv (m : Nat) (q : MR) : Int32 := nI (pc (getM m q.2).1) - nI (pc q.2.1)
def sumM (m : Nat) (rc : Nat → MR) : Nat → Int32
  | 0 => 0
  | n + 1 => sumM m rc n + (if (rc n).1 = true then gtv m (rc n) else 0)
theorem sumM_y {m : Nat} {rc : Nat → MR} {i : Nat} (h : (rc i).1 = true) : sumM m rc i + (nI (pc (getM m (rc i).2).1) - nI (pc (rc i).2.1)) = sumM m rc (i + 1) := by
  rw [sumM, if_pos h]
  rfl
theorem sumM_n {m : Nat} {rc : Nat → MR} {i : Nat} (h : (rc i).1 = false) : sumM m rc i + 0 = sumM m rc (i + 1) := by
  rw [sumM, if_neg (by rw [h]; decide)]
theorem gotM_y {m : Nat} {q : MR} (h : q.1 = true) : gotM m q = (true, getM m q.2) := if_pos h
theorem gotM_n {m : Nat} {q : MR} (h : q.1 = false) : gotM m q = q := if_neg (by rw [h]; decide)
theorem bI_e1 {b : Bool} (h : bI b = 1) : b = true := by
  cases b
  · exact absurd h (by decide)
  · rfl
theorem bI_n1 {b : Bool} (h : ¬ bI b = 1) : b = false := by
  cases b
  · rfl
  · exact absurd rfl h
/-- rows -/
def cpA (x : Nat → Int32) (o : Nat) (f : Nat → Int32) (i : Nat) : Nat → Int32 := fun j => if j < i then x (o + j) else f j
theorem cpA_0 (x : Nat → Int32) (o : Nat) (f : Nat → Int32) : cpA x o f 0 = f := by
  funext j
  unfold cpA
  rw [if_neg (Nat.not_lt_zero j)]
theorem cpA_s (x : Nat → Int32) (o : Nat) (f : Nat → Int32) (i : Nat) : upd (cpA x o f i) i (x (o + i)) = cpA x o f (i + 1) := by
  funext j
  by_cases e : j = i
  · subst e
    rw [pk_us]
    unfold cpA
    rw [if_pos (Nat.lt_succ_self j)]
  · rw [pk_un e]
    unfold cpA
    by_cases h2 : j < i
    · rw [if_pos h2, if_pos (Nat.lt_succ_of_lt h2)]
    · rw [if_neg h2, if_neg (show ¬ j < i + 1 by omega)]
theorem cpA_hi {x : Nat → Int32} {o : Nat} {f : Nat → Int32} {i j : Nat} (h : i ≤ j) : cpA x o f i j = f j := by
  unfold cpA
  rw [if_neg (by omega)]
theorem cpA_lo {x : Nat → Int32} {o : Nat} {f : Nat → Int32} {i j : Nat} (h : j < i) : cpA x o f i j = x (o + j) := by
  unfold cpA
  rw [if_pos h]
/-- i places from o on are x -/
def pbF (x : Nat → Int32) (o : Nat) (f : Nat → Int32) (i : Nat) : Nat → Int32 := fun j => if o ≤ j ∧ j < o + i then x (j - o) else f j
theorem pbF_0 (x : Nat → Int32) (o : Nat) (f : Nat → Int32) : pbF x o f 0 = f := by
  funext j
  unfold pbF
  rw [if_neg (by omega)]
theorem pbF_s (x : Nat → Int32) (o : Nat) (f : Nat → Int32) (i : Nat) : upd (pbF x o f i) (o + i) (x i) = pbF x o f (i + 1) := by
  funext j
  by_cases e : j = o + i
  · subst e
    rw [pk_us]
    unfold pbF
    rw [if_pos (by omega), Nat.add_sub_cancel_left]
  · rw [pk_un e]
    unfold pbF
    by_cases h2 : o ≤ j ∧ j < o + i
    · rw [if_pos h2, if_pos (by omega)]
    · rw [if_neg h2, if_neg (by omega)]
theorem pb_md {nb : Nat} {va : Nat → Int32} {se : Int32} {rv : Nat → Nat → Int32} {u : Nat} {h x : Nat → Int32} : pbF x (14 + 30 * u) (mdE nb va se (va_up rv u h)) 30 = mdE nb va se (va_up rv u (fun j => if j < 30 then x j else h j)) := by
  funext i
  unfold pbF mdE
  by_cases h0 : 14 + 30 * u ≤ i ∧ i < 14 + 30 * u + 30
  · rw [if_pos h0, if_neg (by omega), if_neg (by omega), if_neg (by omega), show (i - 14) / 30 = u by omega, va_up_at]
    show _ = (if (i - 14) % 30 < 30 then x ((i - 14) % 30) else h ((i - 14) % 30))
    rw [if_pos (by omega), show (i - 14) % 30 = i - (14 + 30 * u) by omega]
  · rw [if_neg h0]
    by_cases h1 : i = 0
    · rw [if_pos h1, if_pos h1]
    rw [if_neg h1, if_neg h1]
    by_cases h2 : i = 1
    · rw [if_pos h2, if_pos h2]
    rw [if_neg h2, if_neg h2]
    by_cases h3 : i < 14
    · rw [if_pos h3, if_pos h3]
    rw [if_neg h3, if_neg h3, va_up_ne _ _ (by omega), va_up_ne _ _ (by omega)]
theorem rvP_back {q : MR} {h h2 x : Nat → Int32} (hq : rvP q h) (hx : ∀ j, j < 30 → x j = h j) : rvP q (fun j => if j < 30 then x j else h2 j) := by
  obtain ⟨w, rfl, hw, hok⟩ := hq
  refine ⟨fun k => if 6 + k < 30 then w k else h2 (6 + k), ?_, fun k hk => ?_, hok⟩
  · funext j
    by_cases e : j < 30
    · rw [if_pos e, hx j e]
      match j with
      | 0 => rfl
      | 1 => rfl
      | 2 => rfl
      | 3 => rfl
      | 4 => rfl
      | 5 => rfl
      | j + 6 =>
        show w j = (if 6 + j < 30 then w j else h2 (6 + j))
        rw [if_pos (by omega)]
    · rw [if_neg e]
      match j, e with
      | 0, e => exact absurd (by decide) e
      | 1, e => exact absurd (by decide) e
      | 2, e => exact absurd (by decide) e
      | 3, e => exact absurd (by decide) e
      | 4, e => exact absurd (by decide) e
      | 5, e => exact absurd (by decide) e
      | j + 6, e =>
        show h2 (j + 6) = (if 6 + j < 30 then w j else h2 (6 + j))
        rw [if_neg (by omega), Nat.add_comm]
  · have h1 := hok.1
    show (if 6 + k < 30 then w k else h2 (6 + k)) = _
    rw [if_pos (by omega)]
    exact hw k hk
/-- what is saved -/
def mdO (z : MS) (rv : Nat → Nat → Int32) : Prop := (∀ i, i < 3 → rvP (z.2.2.2 i) (rv i)) ∧ 2 ≤ z.1 ∧ z.1 ≤ 12
def mdQ (z : MS) (h : Nat → Int32) : Prop := ∃ rv, (∀ j, j < 104 → h j = mdE z.1 z.2.1 z.2.2.1 rv j) ∧ mdO z rv
def svP (hs : Nat → MS) (ke : Nat) (sv : Nat → Int32) : Prop := ∀ i, i < ke → mdQ (hs i) (fun j => sv (104 * i + j))
def pushM (ke : Nat) (hs : Nat → MS) (z : MS) : Nat → MS := if ke < 6 then va_up hs ke z else fun j => if j = 5 then z else hs (j + 1)
theorem mdQ_cg {z : MS} {h h2 : Nat → Int32} (hq : mdQ z h) (e : ∀ j, j < 104 → h2 j = h j) : mdQ z h2 := by
  obtain ⟨rv, h1, h3⟩ := hq
  exact ⟨rv, fun j hj => (e j hj).trans (h1 j hj), h3⟩
theorem svP_push {hs : Nat → MS} {ke : Nat} {sv sv2 f : Nat → Int32} {z : MS} (hk : ke ≤ 6) (h : svP hs ke sv) (hz : mdQ z f) (h1 : ∀ j, j < 104 → sv2 (104 * (if ke < 6 then ke else 5) + j) = f j) (h2 : ∀ j, j < 104 * (if ke < 6 then ke else 5) → sv2 j = if ke < 6 then sv j else sv (104 + j)) : svP (pushM ke hs z) (kpK ke) sv2 := by
  intro i hi
  unfold kpK at hi
  unfold pushM
  by_cases c : ke < 6
  · rw [if_pos c] at hi ⊢
    rw [if_pos c] at h1 h2
    by_cases e : i = ke
    · rw [e, va_up_at]
      exact mdQ_cg hz h1
    · rw [va_up_ne _ _ e]
      refine mdQ_cg (h i (by omega)) fun j hj => ?_
      show sv2 (104 * i + j) = sv (104 * i + j)
      rw [h2 _ (by omega), if_pos c]
  · rw [if_neg c] at hi ⊢
    rw [if_neg c] at h1 h2
    by_cases e : i = 5
    · rw [e]
      exact mdQ_cg hz h1
    · show mdQ (if i = 5 then z else hs (i + 1)) _
      rw [if_neg e]
      refine mdQ_cg (h (i + 1) (by omega)) fun j hj => ?_
      show sv2 (104 * i + j) = sv (104 * (i + 1) + j)
      rw [h2 _ (by omega), if_neg c]
      congr 1
      omega
theorem svP_pop {hs : Nat → MS} {ke : Nat} {sv : Nat → Int32} (h : svP hs ke sv) : svP hs (ke - 1) sv := fun i hi => h i (by omega)
theorem moF_s {E : wE} {g : Nat → Nat} {th : Int32} {f f2 aa sv : Nat → Int32} {sm : Nat} {tx : Nat → Int32} {ln : Nat} {ro : Nat → Int32} {ai : Nat} {wr : Bool} {dg : Int64} {H : Heap} (h : wP E 6 g (moF E g th f aa sv sm tx ln ro ai wr dg) H) (e : ∀ j, j < 104 → f j = f2 j) : wP E 6 g (moF E g th f2 aa sv sm tx ln ro ai wr dg) H := by
  refine wP_at.mpr fun k hk => ?_
  have h1 := wP_at.mp h k hk
  match k, hk with
  | 0, _ => exact h1
  | 1, _ => exact cell_cg h1 e
  | 2, _ => exact h1
  | 3, _ => exact h1
  | 4, _ => exact h1
  | _ + 5, _ => exact h1
theorem hd_sv {f svb sv3 : Nat → Int32} {u i : Nat} (h : ∀ j, sv3 j = if 104 * u ≤ j ∧ j < 104 * u + i then f (j - 104 * u) else svb j) : ∀ j, upd sv3 (104 * u + i) (f i) j = if 104 * u ≤ j ∧ j < 104 * u + (i + 1) then f (j - 104 * u) else svb j := by
  intro j
  by_cases e : j = 104 * u + i
  · subst e
    rw [pk_us, if_pos (by omega), Nat.add_sub_cancel_left]
  · rw [pk_un e, h j]
    by_cases h2 : 104 * u ≤ j ∧ j < 104 * u + i
    · rw [if_pos h2, if_pos (by omega)]
    · rw [if_neg h2, if_neg (by omega)]
/-- the next mix that helps, how many mixes it takes -/
def hpM (nb : Nat) (q : MR) (k : Nat) : Bool := decide (0 < gtv (mskM nb k) q)
abbrev isDM (nb : Nat) (q : MQ5) : Bool := decide (q.1 = 2 ^ nb - 1)
def elmQ (nb : Nat) (q : MQ5) : MQ5 := ((elM nb (alnM (redW q.2.2.2.2)) (q.1, q.2.2.1, q.2.2.2.2)).1, q.2.1, (elM nb (alnM (redW q.2.2.2.2)) (q.1, q.2.2.1, q.2.2.2.2)).2.1, q.2.2.2.1, (elM nb (alnM (redW q.2.2.2.2)) (q.1, q.2.2.1, q.2.2.2.2)).2.2)
def stpM (nb fr : Nat) (el : Bool) (tk : Nat) (q : MQ5) : MQ5 := if el = true then elmQ nb (getM (mskM nb (fr + tk)) q) else getM (mskM nb (fr + tk)) q
def ndM (nb fr : Nat) (el : Bool) : Nat → Nat → MQ5 → Int32
  | 0, _, q => if isDM nb q = true then nI 100 else -1
  | n + 1, tk, q => if isDM nb q = true then nI tk else ndM nb fr el n (tk + 1) (stpM nb fr el tk q)
def rnkM (q : MQ5) : Int32 := nI (pc q.1 + (redW q.2.2.2.2).length)
def numM (nb : Nat) (q : MR) (j : Nat) : Int32 := if j = 0 then bI q.1 else if j = 1 then nI (pc q.2.1) else if j = 2 then nI q.2.1 else if j = 3 then nI q.2.2.2.2.2.length else if j = 4 then q.2.2.1 else if j = 5 then q.2.2.2.1 else if j = 6 then q.2.2.2.2.1 else if j = 7 then bI (isDM nb q.2) else rnkM q.2
def cntM (f : MR → Bool) (rc : Nat → MR) : Nat → Nat
  | 0 => 0
  | n + 1 => cntM f rc n + (if f (rc n) = true then 1 else 0)
theorem cntM_le {f : MR → Bool} {rc : Nat → MR} : ∀ i, cntM f rc i ≤ i
  | 0 => Nat.le_refl 0
  | i + 1 => by
    have h := cntM_le (f := f) (rc := rc) i
    rw [cntM]
    split <;> omega
theorem cntM_y {f : MR → Bool} {rc : Nat → MR} {i : Nat} (h : f (rc i) = true) : cntM f rc i + 1 = cntM f rc (i + 1) := by rw [cntM, if_pos h]
theorem cntM_n {f : MR → Bool} {rc : Nat → MR} {i : Nat} (h : f (rc i) = false) : cntM f rc i + 0 = cntM f rc (i + 1) := by rw [cntM, if_neg (by rw [h]; decide)]
def cF (j nb : Nat) : MR → Bool := if j = 2 then (fun q => q.1) else fun q => isDM nb q.2
def ctM (nb : Nat) (va : Nat → Int32) (se : Int32) (rc : Nat → MR) (ke j : Nat) : Int32 := if j = 0 then nI nb else if j = 1 then se else if j = 2 then nI (cntM (cF 2 nb) rc 3) else if j = 3 then nI (cntM (cF 3 nb) rc 3) else if j = 4 then vlM nb va (2 ^ nb - 1) else nI ke
