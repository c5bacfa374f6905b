/-! what holds of all that waits holds of the rows -/
theorem xr_cl {P : Nat → Prop} (hx : ∀ a b, P a → P b → P (a ^^^ b)) : ∀ (L : List Nat) (m : Nat), (∀ y ∈ L, P y) → P m → P (L.foldl xS m) := by
  intro L
  induction L with
  | nil => intro m _ h; exact h
  | cons y L ih =>
    intro m hL hm
    rw [List.foldl_cons]
    refine ih _ (fun z hz => hL z (List.mem_cons_of_mem _ hz)) ?_
    unfold xS
    split
    · exact hm
    · exact hx _ _ hm (hL y List.mem_cons_self)
theorem redS_cl {P : Nat → Prop} (hx : ∀ a b, P a → P b → P (a ^^^ b)) {R : List Nat} {m : Nat} (hR : ∀ y ∈ R, P y) (hm : P m) : ∀ y ∈ redS R m, P y := by
  have h1 : P (xr R m) := xr_cl hx R m hR hm
  unfold redS
  split
  · exact hR
  · intro y hy
    rcases List.mem_append.mp hy with hy | hy
    · obtain ⟨w, hw, rfl⟩ := List.mem_map.mp hy
      rcases clr_or (x := xr R m) (y := w) with e | e <;> rw [e]
      · exact hR w hw
      · exact hx _ _ (hR w hw) h1
    · rw [List.mem_singleton.mp hy]; exact h1
theorem redW_cl {P : Nat → Prop} (hx : ∀ a b, P a → P b → P (a ^^^ b)) : ∀ (W R : List Nat), (∀ y ∈ R, P y) → (∀ w ∈ W, P w) → ∀ y ∈ W.foldl redS R, P y := by
  intro W
  induction W with
  | nil => intro R hR _; exact hR
  | cons w W ih =>
    intro R hR hW
    rw [List.foldl_cons]
    exact ih _ (redS_cl hx hR (hW w List.mem_cons_self)) (fun z hz => hW z (List.mem_cons_of_mem _ hz))
theorem xor_and0 {a b K : Nat} (ha : a &&& K = 0) (hb : b &&& K = 0) : (a ^^^ b) &&& K = 0 := by
  rw [Nat.and_xor_distrib_right, ha, hb]
  rfl
theorem fo_lt {nb : Nat} {W : List Nat} (hn : nb ≤ 12) (hW : ∀ w ∈ W, w < 2 ^ nb) {b : Nat} (h : (alnM (redW W)).testBit b = true) (hb : b < 12) : b < nb := by
  have h4 : ∀ y ∈ redW W, y < 2 ^ nb := redW_cl (P := fun y => y < 2 ^ nb) (fun a b ha hb => Nat.xor_lt_two_pow ha hb) W [] (fun y hy => absurd hy List.not_mem_nil) hW
  have h5 := (aln_mem (redW W) 0 b (fun y hy => Nat.lt_of_lt_of_le (h4 y hy) (pow_nb hn)) hb).mp h
  rcases h5 with h5 | h5
  · rw [Nat.zero_testBit] at h5; exact absurd h5 (by decide)
  · exact (Nat.pow_lt_pow_iff_right (a := 2) (by decide)).mp (h4 _ h5)
theorem fo_disj {K : Nat} {W : List Nat} (hW : ∀ w ∈ W, w < 4096 ∧ w &&& K = 0) : alnM (redW W) &&& K = 0 := by
  have h4 : ∀ y ∈ redW W, y < 4096 ∧ y &&& K = 0 := redW_cl (P := fun y => y < 4096 ∧ y &&& K = 0) (fun a b ha hb => ⟨xor_lt ha.1 hb.1, xor_and0 ha.2 hb.2⟩) W [] (fun y hy => absurd hy List.not_mem_nil) hW
  have hlt : alnM (redW W) < 4096 := aln_fold _ 0 (by decide) (fun k hk => (h4 _ (getD_mem hk)).1)
  apply Nat.eq_of_testBit_eq
  intro i
  rw [Nat.testBit_and, Nat.zero_testBit]
  by_cases hi : i < 12
  · cases h : (alnM (redW W)).testBit i
    · rfl
    · rcases (aln_mem (redW W) 0 i (fun y hy => (h4 y hy).1) hi).mp h with h5 | h5
      · rw [Nat.zero_testBit] at h5; exact absurd h5 (by decide)
      · have h6 := (h4 _ h5).2
        rw [Nat.and_comm] at h6
        rw [and_pow.mp h6]; rfl
  · rw [tb_hi hlt (by omega)]; rfl
theorem itr_add {σ : Type} (f : Nat → σ → σ) : ∀ (n m i : Nat) (s : σ), itr f (n + m) i s = itr f m (i + n) (itr f n i s) := by
  intro n
  induction n with
  | zero => intro m i s; rw [Nat.zero_add]; rfl
  | succ n ih =>
    intro m i s
    rw [show n + 1 + m = (n + m) + 1 by omega, itr_s, itr_s, ih, show i + 1 + n = i + (n + 1) by omega]
theorem elS_id {fo b : Nat} {q : Nat × Int32 × List Nat} (h : fo.testBit b = false) : elS fo b q = q := by
  unfold elS
  rw [h, if_neg (by decide)]
theorem itr_id {σ : Type} {f : Nat → σ → σ} : ∀ (n i : Nat) (s : σ), (∀ j s, i ≤ j → f j s = s) → itr f n i s = s := by
  intro n
  induction n with
  | zero => intro i s _; rfl
  | succ n ih =>
    intro i s h
    rw [itr_s, h i s (Nat.le_refl i)]
    exact ih (i + 1) s (fun j s hj => h j s (by omega))
/-- the class goes through all twelve, the reference through those there are -/
theorem elM_12 {nb : Nat} (hn : nb ≤ 12) {fo : Nat} (hfo : fo < 4096) (hf : ∀ b, b < 12 → fo.testBit b = true → b < nb) (q : Nat × Int32 × List Nat) : itr (elS fo) 12 0 q = elM nb fo q := by
  unfold elM
  rw [show 12 = nb + (12 - nb) by omega, itr_add]
  refine itr_id _ _ _ fun j s hj => elS_id ?_
  cases h : fo.testBit j
  · rfl
  · by_cases hj2 : j < 12
    · have := hf j hj2 h
      omega
    · rw [tb_hi hfo (by omega)] at h
      exact absurd h (by decide)
def q3OK (nb : Nat) (q : Nat × Int32 × List Nat) : Prop := q.1 < 2 ^ nb ∧ ∀ w ∈ q.2.2, w < 2 ^ nb ∧ w &&& q.1 = 0 ∧ 2 ≤ pc w
theorem elS_inv2 {nb fo b : Nat} (hf : fo.testBit b = true → b < nb) {q : Nat × Int32 × List Nat} (hn : nb ≤ 12) (h : q3OK nb q) :
    q3OK nb (elS fo b q) ∧ subB q.1 (elS fo b q).1 ∧ (fo.testBit b = true → (elS fo b q).1.testBit b = true) ∧ ∃ c, (elS fo b q).2.1 = q.2.1 + nI c ∧ c + (elS fo b q).2.2.length ≤ q.2.2.length := by
  cases hb : fo.testBit b
  · rw [elS_id hb]
    exact ⟨h, fun _ h => h, fun h => absurd h (by decide), 0, (Int32.add_zero _).symm, Nat.le_of_eq (Nat.zero_add _)⟩
  · obtain ⟨h1, h2, h3, h4, h5⟩ := elS_inv (fo := fo) (hf hb) hn h.1 h.2
    rw [hb] at h4
    exact ⟨⟨h1, h2⟩, h3, h4, h5⟩
theorem elF_inv {nb fo : Nat} (hn : nb ≤ 12) : ∀ (n i : Nat) (q : Nat × Int32 × List Nat), (∀ b, i ≤ b → b < i + n → fo.testBit b = true → b < nb) → q3OK nb q →
    q3OK nb (itr (elS fo) n i q) ∧ subB q.1 (itr (elS fo) n i q).1 ∧ (∀ b, i ≤ b → b < i + n → fo.testBit b = true → (itr (elS fo) n i q).1.testBit b = true) ∧ ∃ c, (itr (elS fo) n i q).2.1 = q.2.1 + nI c ∧ c + (itr (elS fo) n i q).2.2.length ≤ q.2.2.length := by
  intro n
  induction n with
  | zero => intro i q _ h; exact ⟨h, fun _ h => h, fun b h1 h2 _ => absurd h2 (by omega), 0, (Int32.add_zero _).symm, Nat.le_of_eq (Nat.zero_add _)⟩
  | succ n ih =>
    intro i q hf h
    obtain ⟨g1, g2, g3, c, g4, g5⟩ := elS_inv2 (hf i (Nat.le_refl i) (by omega)) hn h
    obtain ⟨k1, k2, k3, c2, k4, k5⟩ := ih (i + 1) (elS fo i q) (fun b h1 h2 => hf b (by omega) (by omega)) g1
    rw [itr_s]
    refine ⟨k1, subB_tr g2 k2, fun b h1 h2 hb => ?_, c + c2, ?_, by omega⟩
    · by_cases e : b = i
      · subst e; exact k2 b (g3 hb)
      · exact k3 b (by omega) (by omega) hb
    · rw [k4, g4, Int32.add_assoc, nI_add]
theorem find_fold {vn : Nat → Nat} (hv : vOK vn) {W0 : List Nat} (hW0 : ∀ w ∈ W0, w < 4096) {nb : Nat} (hn : nb ≤ 12) (hf : ∀ b, b < 12 → (alnM (redW W0)).testBit b = true → b < nb) : ∀ (n i K : Nat) (al : Nat → Int32) (W : List Nat) (tn fd : Int32), i + n = 12 → alR vn K al → q3OK nb (K, tn, W) →
    ∃ al', itr (findB (lookS (encW vn W0)).1) n i (nI K, al, encW vn W, tn, fd) = (nI (itr (elS (alnM (redW W0))) n i (K, tn, W)).1, al', encW vn (itr (elS (alnM (redW W0))) n i (K, tn, W)).2.2, (itr (elS (alnM (redW W0))) n i (K, tn, W)).2.1, fd + (nI (pc (itr (elS (alnM (redW W0))) n i (K, tn, W)).1) - nI (pc K))) ∧ alR vn (itr (elS (alnM (redW W0))) n i (K, tn, W)).1 al' := by
  intro n
  induction n with
  | zero =>
    intro i K al W tn fd _ ha _
    refine ⟨al, ?_, ha⟩
    show (nI K, al, encW vn W, tn, fd) = (nI K, al, encW vn W, tn, fd + (nI (pc K) - nI (pc K)))
    rw [nI_zero_sub, Int32.add_zero]
  | succ n ih =>
    intro i K al W tn fd hi ha h
    have hwok : wOK K W := fun w hw => ⟨Nat.lt_of_lt_of_le (h.2 w hw).1 (pow_nb hn), (h.2 w hw).2.1⟩
    obtain ⟨al1, e1, ha1⟩ := find_mk (tn := tn) (fd := fd) hv hW0 (b := i) (by omega) ha hwok (Nat.lt_of_lt_of_le h.1 (pow_nb hn))
    obtain ⟨g1, _⟩ := elS_inv2 (hf i (by omega)) hn h
    rw [itr_s, itr_s, e1]
    generalize elS (alnM (redW W0)) i (K, tn, W) = q2 at ha1 g1 ⊢
    obtain ⟨K2, tn2, W2⟩ := q2
    obtain ⟨al2, e2, ha2⟩ := ih (i + 1) K2 al1 W2 tn2 (fd + (nI (pc K2) - nI (pc K))) (by omega) ha1 g1
    refine ⟨al2, ?_, ha2⟩
    rw [e2, i_add_assoc, nI_diff]
/-- a receiver eliminates -/
theorem elim_mk {vn : Nat → Nat} (hv : vOK vn) {nb : Nat} (hn : nb ≤ 12) {q : RS} {p : MQ5} (hq : RQ vn q p) (hi : MI nb p) :
    (findS q).2.2.2.2 = nI (pc (elmQ nb p).1) - nI (pc p.1) ∧ RQ vn (elimQ q) (elmQ nb p) ∧ MI nb (elmQ nb p) ∧ subB p.1 (elmQ nb p).1 ∧ (∀ b, b < nb → (alnM (redW p.2.2.2.2)).testBit b = true → (elmQ nb p).1.testBit b = true) ∧ ∀ B, CN B p → CN B (elmQ nb p) := by
  obtain ⟨kb, al, L, go, tn, lo⟩ := q
  obtain ⟨K, go2, tn2, lo2, W⟩ := p
  obtain ⟨e1, ha, e3, e4, e5, e6⟩ := hq
  replace e1 : kb = nI K := e1
  replace e3 : L = encW vn W := e3
  replace e4 : go = go2 := e4
  replace e5 : tn = tn2 := e5
  replace e6 : lo = lo2 := e6
  replace ha : alR vn K al := ha
  subst e1 e3 e4 e5 e6
  have hWb : ∀ w ∈ W, w < 2 ^ nb := fun w hw => (hi.2.1 w hw).1
  have hW4 : ∀ w ∈ W, w < 4096 := fun w hw => Nat.lt_of_lt_of_le (hWb w hw) (pow_nb hn)
  have hlt : alnM (redW W) < 4096 := alnM_lt (fun k hk => hW4 _ (getD_mem hk))
  have hf : ∀ b, b < 12 → (alnM (redW W)).testBit b = true → b < nb := fun b hb h => fo_lt hn hWb h hb
  have h3 : q3OK nb (K, tn, W) := ⟨hi.1, hi.2.1⟩
  obtain ⟨al2, e2, ha2⟩ := find_fold hv hW4 hn hf 12 0 K al W tn 0 rfl ha h3
  rw [elM_12 hn hlt hf] at e2 ha2
  obtain ⟨k1, k2, k3, c, k4, k5⟩ := elF_inv (fo := alnM (redW W)) hn nb 0 (K, tn, W) (fun b _ h2 _ => by omega) h3
  have ef : findS (nI K, al, encW vn W, go, tn, lo) = _ := e2
  have hel : itr (elS (alnM (redW W))) nb 0 (K, tn, W) = elM nb (alnM (redW W)) (K, tn, W) := rfl
  rw [hel] at k1 k2 k3 k4 k5
  refine ⟨?_, ⟨?_, ?_, ?_, rfl, ?_, rfl⟩, ⟨k1.1, k1.2, ?_⟩, k2, fun b hb h => k3 b (Nat.zero_le _) (by omega) h, fun B hc => ?_⟩
  · rw [ef]; exact Int32.zero_add _
  · show (findS (nI K, al, encW vn W, go, tn, lo)).1 = _
    rw [ef]; rfl
  · show alR vn _ (findS (nI K, al, encW vn W, go, tn, lo)).2.1
    rw [ef]; exact ha2
  · show (findS (nI K, al, encW vn W, go, tn, lo)).2.2.1 = _
    rw [ef]; rfl
  · show (findS (nI K, al, encW vn W, go, tn, lo)).2.2.2.1 = _
    rw [ef]; rfl
  · have : W.length ≤ 24 := hi.2.2
    have k5 : c + (elM nb (alnM (redW W)) (K, tn, W)).2.2.length ≤ W.length := k5
    show (elM nb (alnM (redW W)) (K, tn, W)).2.2.length ≤ 24
    omega
  · obtain ⟨G, T, O, c1, c2, c3, c4, c5⟩ := hc
    have c4 : T + O + W.length ≤ G := c4
    have k5 : c + (elM nb (alnM (redW W)) (K, tn, W)).2.2.length ≤ W.length := k5
    refine ⟨G, T + c, O, c1, ?_, c3, ?_, c5⟩
    · show (elM nb (alnM (redW W)) (K, tn, W)).2.1 = _
      rw [k4, show tn = nI T from c2, nI_add]
    · show T + c + O + (elM nb (alnM (redW W)) (K, tn, W)).2.2.length ≤ G
      omega
