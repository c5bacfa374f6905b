/-! spans: what blocks that are known and mixes that wait tell together -/
def xcl (P : Nat → Prop) : Prop := P 0 ∧ ∀ a b, P a → P b → P (a ^^^ b)
/-- P holds of all that is known and of all that waits -/
def pI (P : Nat → Prop) (K : Nat) (W : List Nat) : Prop := (∀ b, b < 12 → K.testBit b = true → P (2 ^ b)) ∧ ∀ w ∈ W, P w
def spn (K : Nat) (W : List Nat) (x : Nat) : Prop := ∀ P : Nat → Prop, xcl P → pI P K W → P x
theorem spn_cl (K : Nat) (W : List Nat) : xcl (spn K W) :=
  ⟨fun _ hc _ => hc.1, fun a b ha hb P hc hp => hc.2 a b (ha P hc hp) (hb P hc hp)⟩
theorem spn_pI (K : Nat) (W : List Nat) : pI (spn K W) K W := ⟨fun b h1 h2 _ _ hp => hp.1 b h1 h2, fun w hw _ _ hp => hp.2 w hw⟩
theorem spn_le {K K2 : Nat} {W W2 : List Nat} (h : pI (spn K2 W2) K W) {x : Nat} (hx : spn K W x) : spn K2 W2 x := hx _ (spn_cl K2 W2) h
theorem pI_sub {P : Nat → Prop} (hc : xcl P) {K : Nat} {W : List Nat} (hp : pI P K W) {m : Nat} (hm : m < 4096) (hs : subB m K) : P m := by
  have key : ∀ i, i ≤ 12 → P (m % 2 ^ i) := by
    intro i
    induction i with
    | zero => intro _; rw [Nat.pow_zero, Nat.mod_one]; exact hc.1
    | succ i ih =>
      intro hi
      rw [mod_succ]
      split
      · next h => exact hc.2 _ _ (ih (by omega)) (hp.1 i (by omega) (hs i h))
      · exact ih (by omega)
  have := key 12 (Nat.le_refl 12)
  rw [Nat.mod_eq_of_lt (by omega)] at this
  exact this
theorem and_subB (a b : Nat) : subB (a &&& b) b := fun i h => by
  rw [Nat.testBit_and] at h
  cases q : b.testBit i
  · rw [q, Bool.and_false] at h; exact absurd h (by decide)
  · rfl
theorem andn_back (m K : Nat) : andn m K ^^^ (m &&& K) = m := by unfold andn; rw [xor_xor]
/-- the rows of a closed set's mixes lie in it -/
theorem xr_P {P : Nat → Prop} (hc : xcl P) : ∀ (L : List Nat) (z : Nat), (∀ y ∈ L, P y) → P (z ^^^ L.foldl xS z) := by
  intro L
  induction L with
  | nil => intro z _; show P (z ^^^ z); rw [Nat.xor_self]; exact hc.1
  | cons y L ih =>
    intro z h
    rw [List.foldl_cons]
    have h1 := ih (xS z y) (fun w hw => h w (List.mem_cons_of_mem _ hw))
    have h2 : P (z ^^^ xS z y) := by
      unfold xS
      split
      · rw [Nat.xor_self]; exact hc.1
      · rw [← Nat.xor_assoc, Nat.xor_self, Nat.zero_xor]; exact h y List.mem_cons_self
    have h3 := hc.2 _ _ h2 h1
    rw [show (z ^^^ xS z y) ^^^ (xS z y ^^^ L.foldl xS (xS z y)) = z ^^^ L.foldl xS (xS z y) by
      rw [Nat.xor_assoc, ← Nat.xor_assoc (xS z y), Nat.xor_self, Nat.zero_xor]] at h3
    exact h3
theorem rw_iv {W : List Nat} (hW : ∀ w ∈ W, w < 4096) : rIv (redW W) := redW_iv (fun k hk => hW _ (getD_mem hk))
theorem xr_z {R : List Nat} (h : rIv R) : xr R 0 = 0 := by
  have := xr_lin h 0 0
  rw [Nat.xor_self] at this
  have h2 := this
  rw [Nat.xor_self] at h2
  exact h2
theorem spn_ker {W : List Nat} (hW : ∀ w ∈ W, w < 4096) {x : Nat} (h : spn 0 W x) : xr (redW W) x = 0 := by
  have hR := rw_iv hW
  refine h (fun z => xr (redW W) z = 0) ⟨xr_z hR, fun a b ha hb => ?_⟩ ⟨fun b _ hb => ?_, ker_W hW⟩
  · show xr (redW W) (a ^^^ b) = 0
    rw [xr_lin hR, ha, hb]; rfl
  · rw [Nat.zero_testBit] at hb; exact absurd hb (by decide)
theorem ker_spn {W : List Nat} {x : Nat} (h : xr (redW W) x = 0) : spn 0 W x := by
  intro P hc hp
  have h1 : ∀ y ∈ redW W, P y := redW_cl (P := P) hc.2 W [] (fun y hy => absurd hy List.not_mem_nil) hp.2
  have h2 := xr_P hc (redW W) x h1
  rw [show (redW W).foldl xS x = 0 from h, Nat.xor_zero] at h2
  exact h2
/-- the lowest blocks of the rows -/
def pivs : List Nat → Nat
  | [] => 0
  | y :: R => low y ||| pivs R
theorem pivs_t : ∀ (R : List Nat) (b : Nat), (pivs R).testBit b = true ↔ ∃ y ∈ R, (low y).testBit b = true := by
  intro R
  induction R with
  | nil => intro b; exact ⟨fun h => by rw [show pivs [] = 0 from rfl, Nat.zero_testBit] at h; exact absurd h (by decide), fun ⟨y, hy, _⟩ => absurd hy List.not_mem_nil⟩
  | cons y R ih =>
    intro b
    rw [pivs, Nat.testBit_or, Bool.or_eq_true, ih]
    constructor
    · rintro (h | ⟨z, hz, h⟩)
      · exact ⟨y, List.mem_cons_self, h⟩
      · exact ⟨z, List.mem_cons_of_mem _ hz, h⟩
    · rintro ⟨z, hz, h⟩
      rcases List.mem_cons.mp hz with e | hz
      · left; rw [← e]; exact h
      · exact Or.inr ⟨z, hz, h⟩
theorem rIv_tail {y : Nat} {R : List Nat} (h : rIv (y :: R)) : rIv R ∧ (y < 4096 ∧ y ≠ 0) ∧ ∀ z ∈ R, y &&& low z = 0 := by
  refine ⟨⟨fun i hi => h.1 (i + 1) (Nat.succ_lt_succ hi), fun i j hi hj hij => h.2 (i + 1) (j + 1) (Nat.succ_lt_succ hi) (Nat.succ_lt_succ hj) (by omega)⟩, h.1 0 (Nat.zero_lt_succ _), fun z hz => ?_⟩
  obtain ⟨i, hi, rfl⟩ := List.getElem_of_mem hz
  have h1 := h.2 0 (i + 1) (Nat.zero_lt_succ _) (Nat.succ_lt_succ hi) (by omega)
  rw [show (y :: R).getD (i + 1) 0 = R.getD i 0 from rfl, getDN hi] at h1
  exact h1
theorem pivs_pc : ∀ (R : List Nat), rIv R → pc (pivs R) = R.length := by
  intro R
  induction R with
  | nil => intro _; exact pc_of0
  | cons y R ih =>
    intro h
    obtain ⟨h1, ⟨h2, h3⟩, h4⟩ := rIv_tail h
    obtain ⟨a, ha, ea, ta, _⟩ := low_sp h2 h3
    rw [pivs, ea, pc_disj ?_, pc_pow ha, ih h1, List.length_cons, Nat.add_comm]
    rw [Nat.and_comm, and_pow]
    cases q : (pivs R).testBit a
    · rfl
    · obtain ⟨z, hz, hb⟩ := (pivs_t R a).mp q
      obtain ⟨hz1, hz2⟩ := rIv_mem h1 hz
      obtain ⟨c, _, ec, _, _⟩ := low_sp hz1 hz2
      rw [ec, tb_pow] at hb
      have hca := of_decide_eq_true hb
      subst hca
      have h5 := h4 z hz
      rw [ec, and_pow, ta] at h5
      exact absurd h5 (by decide)
/-- a mix that the rows tell has its lowest block in common with a row -/
theorem low_in {R : List Nat} (h : rIv R) {x : Nat} (hx : x < 4096) (h0 : x ≠ 0) (hk : xr R x = 0) : ∃ y ∈ R, low y = low x := by
  obtain ⟨u, hu, eu, tu, zu⟩ := low_sp hx h0
  refine Classical.byContradiction fun hno => ?_
  have key : ∀ (L : List Nat) (z : Nat), (∀ y ∈ L, y ∈ R) → z.testBit u = true → (∀ j, j < u → z.testBit j = false) → (L.foldl xS z).testBit u = true := by
    intro L
    induction L with
    | nil => intro z _ hz _; exact hz
    | cons y L ih =>
      intro z hL hz hlo
      have hy := hL y List.mem_cons_self
      obtain ⟨hy1, hy2⟩ := rIv_mem h hy
      obtain ⟨c, _, ec, tc, zc⟩ := low_sp hy1 hy2
      have hcu : c ≠ u := fun e => hno ⟨y, hy, by rw [ec, eu, e]⟩
      rw [List.foldl_cons, xS_fU ec]
      unfold fU
      rcases Nat.lt_or_ge c u with hlt | hge
      · rw [hlo c hlt, if_neg (by decide)]
        exact ih z (fun w hw => hL w (List.mem_cons_of_mem _ hw)) hz hlo
      · split
        · refine ih _ (fun w hw => hL w (List.mem_cons_of_mem _ hw)) ?_ (fun j hj => ?_)
          · rw [Nat.testBit_xor, hz, zc u (by omega)]; rfl
          · rw [Nat.testBit_xor, hlo j hj, zc j (by omega)]; rfl
        · exact ih z (fun w hw => hL w (List.mem_cons_of_mem _ hw)) hz hlo
  have h1 := key R x (fun _ h => h) tu zu
  rw [show R.foldl xS x = 0 from hk, Nat.zero_testBit] at h1
  exact absurd h1 (by decide)
theorem row_spn {W : List Nat} {y : Nat} (hy : y ∈ redW W) : spn 0 W y :=
  redW_cl (P := spn 0 W) (spn_cl 0 W).2 W [] (fun y hy => absurd hy List.not_mem_nil) (spn_pI 0 W).2 y hy
theorem pivs_sub {W W2 : List Nat} (hW : ∀ w ∈ W, w < 4096) (hW2 : ∀ w ∈ W2, w < 4096) (h : ∀ w ∈ W, spn 0 W2 w) (b : Nat) (hb : (pivs (redW W)).testBit b = true) : (pivs (redW W2)).testBit b = true := by
  obtain ⟨y, hy, hyb⟩ := (pivs_t _ b).mp hb
  obtain ⟨hy1, hy2⟩ := rIv_mem (rw_iv hW) hy
  have h1 : spn 0 W2 y := spn_le (W := W) ⟨fun b _ hb => by rw [Nat.zero_testBit] at hb; exact absurd hb (by decide), h⟩ (row_spn hy)
  obtain ⟨z, hz, e⟩ := low_in (rw_iv hW2) hy1 hy2 (spn_ker hW2 h1)
  exact (pivs_t _ b).mpr ⟨z, hz, by rw [e]; exact hyb⟩
/-- the number of rows is told by the span -/
theorem dim_eq {W W2 : List Nat} (hW : ∀ w ∈ W, w < 4096) (hW2 : ∀ w ∈ W2, w < 4096) (h : ∀ w ∈ W, spn 0 W2 w) (h2 : ∀ w ∈ W2, spn 0 W w) : (redW W).length = (redW W2).length := by
  rw [← pivs_pc _ (rw_iv hW), ← pivs_pc _ (rw_iv hW2)]
  congr 1
  apply Nat.eq_of_testBit_eq
  intro i
  cases q : (pivs (redW W)).testBit i
  · cases r : (pivs (redW W2)).testBit i
    · rfl
    · rw [pivs_sub hW2 hW h2 i r] at q; exact absurd q (by decide)
  · exact (pivs_sub hW hW2 h i q).symm
theorem redW_push (W : List Nat) (x : Nat) : redW (W ++ [x]) = redS (redW W) x := by
  unfold redW
  rw [List.foldl_append]
  rfl
theorem dim_push0 {W : List Nat} {x : Nat} (h : xr (redW W) x = 0) : (redW (W ++ [x])).length = (redW W).length := by
  rw [redW_push]
  unfold redS
  rw [if_pos h]
theorem dim_push1 {W : List Nat} {x : Nat} (h : xr (redW W) x ≠ 0) : (redW (W ++ [x])).length = (redW W).length + 1 := by
  rw [redW_push, redS_len h]
theorem dim_push (W : List Nat) (x : Nat) : (redW (W ++ [x])).length = (redW W).length ∨ (redW (W ++ [x])).length = (redW W).length + 1 := by
  by_cases h : xr (redW W) x = 0
  · exact Or.inl (dim_push0 h)
  · exact Or.inr (dim_push1 h)
theorem dim_le (W : List Nat) : (redW W).length ≤ W.length := by
  have key : ∀ (L R : List Nat), (L.foldl redS R).length ≤ R.length + L.length := by
    intro L
    induction L with
    | nil => intro R; exact Nat.le_refl _
    | cons x L ih =>
      intro R
      rw [List.foldl_cons, List.length_cons]
      have h1 := ih (redS R x)
      have h2 : (redS R x).length ≤ R.length + 1 := by
        by_cases h : xr R x = 0
        · unfold redS; rw [if_pos h]; omega
        · rw [redS_len h]; omega
      omega
  have := key W []
  rw [List.length_nil, Nat.zero_add] at this
  exact this
theorem mem_push {W : List Nat} {x w : Nat} (h : w ∈ W ++ [x]) : w ∈ W ∨ w = x := by
  rcases List.mem_append.mp h with h | h
  · exact Or.inl h
  · exact Or.inr (List.mem_singleton.mp h)
theorem sp0 {K : Nat} {W : List Nat} {x : Nat} (h : spn 0 W x) : spn K W x := spn_le ⟨fun b _ hb => by rw [Nat.zero_testBit] at hb; exact absurd hb (by decide), (spn_pI K W).2⟩ h
/-- what is told, less what is known, the waiting ones tell -/
theorem spn_andn {K : Nat} {W : List Nat} (hd : ∀ w ∈ W, w &&& K = 0) {x : Nat} (h : spn K W x) : spn 0 W (andn x K) := by
  refine h (fun z => spn 0 W (andn z K)) ⟨?_, fun a b ha hb => ?_⟩ ⟨fun b _ hb => ?_, fun w hw => ?_⟩
  · show spn 0 W (andn 0 K)
    unfold andn; rw [Nat.zero_and]; exact (spn_cl 0 W).1
  · show spn 0 W (andn (a ^^^ b) K)
    have e : andn (a ^^^ b) K = andn a K ^^^ andn b K := by
      unfold andn; rw [Nat.and_xor_distrib_right, x4]
    rw [e]; exact (spn_cl 0 W).2 _ _ ha hb
  · show spn 0 W (andn (2 ^ b) K)
    have e : andn (2 ^ b) K = 0 := by
      unfold andn
      rw [show 2 ^ b &&& K = 2 ^ b from ?_, Nat.xor_self]
      apply Nat.eq_of_testBit_eq
      intro i
      rw [Nat.testBit_and, tb_pow]
      by_cases e : b = i
      · subst e; rw [hb]; simp
      · rw [decide_eq_false e]; rfl
    rw [e]; exact (spn_cl 0 W).1
  · show spn 0 W (andn w K)
    unfold andn; rw [hd w hw, Nat.xor_zero]; exact (spn_pI 0 W).2 w hw
/-- one block alone becomes known -/
theorem learn_len {K b : Nat} {W : List Nat} (hb : b < 12) (hK : K.testBit b = false) (hW : wOK K W) : pc (K ||| 2 ^ b) + (redW (knW (2 ^ b) W)).length = pc K + (redW (W ++ [2 ^ b])).length := by
  have hW4 : ∀ w ∈ W, w < 4096 := fun w hw => (hW w hw).1
  have hk4 : ∀ w ∈ knW (2 ^ b) W, w < 4096 := fun w hw => by
    obtain ⟨x, hx, rfl⟩ := List.mem_map.mp hw
    exact andn_lt (hW4 x hx)
  have hp4 := pow12 hb
  have e1 : (redW (knW (2 ^ b) W ++ [2 ^ b])).length = (redW (knW (2 ^ b) W)).length + 1 := by
    refine dim_push1 fun h => ?_
    have h1 := ker_spn h
    have h2 := h1 (fun x => x.testBit b = false) ⟨Nat.zero_testBit b, fun p q hp hq => by show (p ^^^ q).testBit b = false; rw [Nat.testBit_xor, hp, hq]; rfl⟩ ⟨fun c _ hc => by rw [Nat.zero_testBit] at hc; exact absurd hc (by decide), fun w hw => by
      obtain ⟨x, hx, rfl⟩ := List.mem_map.mp hw
      show (andn x (2 ^ b)).testBit b = false
      rw [andn_t, tb_pow, decide_eq_true rfl]; simp⟩
    have h2 : (2 ^ b).testBit b = false := h2
    rw [tb_pow, decide_eq_true rfl] at h2
    exact absurd h2 (by decide)
  have hl1 : ∀ w ∈ W ++ [2 ^ b], w < 4096 := fun w hw => (mem_push hw).elim (hW4 w) (fun e => by rw [e]; exact hp4)
  have hl2 : ∀ w ∈ knW (2 ^ b) W ++ [2 ^ b], w < 4096 := fun w hw => (mem_push hw).elim (hk4 w) (fun e => by rw [e]; exact hp4)
  have two : ∀ (L : List Nat), spn 0 (L ++ [2 ^ b]) (2 ^ b) := fun L => (spn_pI 0 _).2 _ (List.mem_append_right _ (List.mem_singleton.mpr rfl))
  have e2 : (redW (knW (2 ^ b) W ++ [2 ^ b])).length = (redW (W ++ [2 ^ b])).length := by
    refine dim_eq hl2 hl1 (fun w hw => ?_) (fun w hw => ?_)
    · rcases mem_push hw with hw | e
      · obtain ⟨x, hx, rfl⟩ := List.mem_map.mp hw
        have hx1 : spn 0 (W ++ [2 ^ b]) x := (spn_pI 0 _).2 x (List.mem_append_left _ hx)
        rw [andn_pow]
        split
        · exact (spn_cl 0 _).2 _ _ hx1 (two W)
        · exact hx1
      · rw [e]; exact two W
    · rcases mem_push hw with hw | e
      · have hx1 : spn 0 (knW (2 ^ b) W ++ [2 ^ b]) (andn w (2 ^ b)) := (spn_pI 0 _).2 _ (List.mem_append_left _ (List.mem_map.mpr ⟨w, hw, rfl⟩))
        rw [andn_pow] at hx1
        split at hx1
        · have h3 := (spn_cl 0 _).2 _ _ hx1 (two (knW (2 ^ b) W))
          rw [xor_xor] at h3
          exact h3
        · exact hx1
      · rw [e]; exact two _
  rw [pc_disj (and_pow.mpr hK), pc_pow hb, ← e2, e1]
  omega
theorem mem_erase {W : List Nat} {p w : Nat} (hp : p < W.length) (hw : w ∈ W) : w ∈ W.eraseIdx p ∨ w = W.getD p 0 := by
  obtain ⟨i, hi, rfl⟩ := List.getElem_of_mem hw
  by_cases e : i = p
  · subst e; right; rw [getDN hi]
  · left
    exact List.mem_eraseIdx_iff_getElem.mpr ⟨i, hi, e, rfl⟩
/-- one that the others tell goes: as many rows -/
theorem dim_er {W : List Nat} {p : Nat} (hp : p < W.length) (hW : ∀ w ∈ W, w < 4096) : (redW (W.eraseIdx p ++ [W.getD p 0])).length = (redW W).length := by
  have hm := getD_mem hp
  refine dim_eq (fun w hw => (mem_push hw).elim (fun h => hW w (List.mem_of_mem_eraseIdx h)) (fun e => by rw [e]; exact hW _ hm)) hW (fun w hw => ?_) (fun w hw => ?_)
  · refine (spn_pI 0 W).2 w ?_
    rcases mem_push hw with h | e
    · exact List.mem_of_mem_eraseIdx h
    · rw [e]; exact hm
  · refine (spn_pI 0 _).2 w ?_
    rcases mem_erase hp hw with h | e
    · exact List.mem_append_left _ h
    · rw [e]; exact List.mem_append_right _ (List.mem_singleton.mpr rfl)
/-- peeling keeps the rank -/
theorem pl_rk : ∀ (n K : Nat) (tn : Int32) (W : List Nat), wOK K W → K < 4096 → pc (plM n K tn W).1 + (redW (plM n K tn W).2.2).length = pc K + (redW W).length := by
  intro n
  induction n with
  | zero => intro K tn W _ _; rfl
  | succ n ih =>
    intro K tn W hW hK
    cases hf : fsM W with
    | none => rw [plM_none hf]
    | some p =>
      have hl := fsM_lt hf
      have hm := hW _ (getD_mem hl)
      have hp := fsM_pc hf
      have her := dim_er hl (fun w hw => (hW w hw).1)
      rw [plM_some hf]
      generalize W.getD p 0 = m at hm hp her
      rw [ih _ _ _ (knW_wOK (erW_wOK hW)) (or_lt hK hm.1)]
      rcases (show pc m = 0 ∨ pc m = 1 by omega) with e | e
      · have h0 := pc_0 hm.1 e
        subst h0
        rw [Nat.or_zero, knW_0]
        rw [dim_push0 (xr_z (rw_iv (fun w hw => (hW w (List.mem_of_mem_eraseIdx hw)).1)))] at her
        rw [her]
      · obtain ⟨b, hb, rfl⟩ := pc_1 hm.1 e
        have hKb : K.testBit b = false := by
          have := hm.2
          rw [Nat.and_comm] at this
          exact and_pow.mp this
        rw [learn_len hb hKb (erW_wOK hW), her]
