theorem xS_lin {a b y c : Nat} (hy : low y = 2 ^ c) : xS (a ^^^ b) y = xS a y ^^^ xS b y := by
  rw [xS_fU hy, xS_fU hy, xS_fU hy]
  unfold fU
  rw [Nat.testBit_xor]
  cases a.testBit c <;> cases b.testBit c <;> simp
  · ac_rfl
  · ac_rfl
  · rw [x4, Nat.xor_self, Nat.xor_zero]
theorem xr_linf : ∀ (L : List Nat) (a b : Nat), (∀ y ∈ L, ∃ c, low y = 2 ^ c) → L.foldl xS (a ^^^ b) = L.foldl xS a ^^^ L.foldl xS b := by
  intro L
  induction L with
  | nil => intro a b _; rfl
  | cons y L ih =>
    intro a b h
    obtain ⟨c, hc⟩ := h y List.mem_cons_self
    rw [List.foldl_cons, List.foldl_cons, List.foldl_cons, xS_lin hc]
    exact ih _ _ (fun z hz => h z (List.mem_cons_of_mem _ hz))
theorem xr_lin {R : List Nat} (h : rIv R) (a b : Nat) : xr R (a ^^^ b) = xr R a ^^^ xr R b :=
  xr_linf R a b (fun y hy => by obtain ⟨h1, h2⟩ := rIv_mem h hy; obtain ⟨c, _, e, _⟩ := low_sp h1 h2; exact ⟨c, e⟩)
theorem ker_s {R : List Nat} (h : rIv R) {m : Nat} (hm : m < 4096) : (∀ x, xr R x = 0 → xr (redS R m) x = 0) ∧ xr (redS R m) m = 0 := by
  by_cases h0 : xr R m = 0
  · rw [show redS R m = R from by unfold redS; rw [if_pos h0]]
    exact ⟨fun x hx => hx, h0⟩
  · obtain ⟨hx, _⟩ := xr_sp h hm
    have hno : ∀ y ∈ R, xr R m &&& low y = 0 := fun y hy => xr_mem h hm hy
    have hr : redS R m = R.map (clr (xr R m)) ++ [xr R m] := by unfold redS; rw [if_neg h0]
    obtain ⟨u, _, hu, tu, zu⟩ := low_sp hx h0
    rw [hr]
    constructor
    · intro x e
      rw [xr_add h hx hu tu zu hno x, e]
      unfold fU
      rw [Nat.zero_testBit, if_neg (by decide)]
    · rw [xr_add h hx hu tu zu hno m]
      unfold fU
      rw [tu, if_pos rfl, Nat.xor_self]
theorem ker_f : ∀ (W R : List Nat), rIv R → (∀ w ∈ W, w < 4096) → (∀ x, xr R x = 0 → xr (W.foldl redS R) x = 0) ∧ ∀ w ∈ W, xr (W.foldl redS R) w = 0 := by
  intro W
  induction W with
  | nil => intro R _ _; exact ⟨fun x h => h, fun w hw => absurd hw List.not_mem_nil⟩
  | cons w W ih =>
    intro R hR hW
    have hw := hW w List.mem_cons_self
    obtain ⟨k1, k2⟩ := ker_s hR hw
    obtain ⟨i1, i2⟩ := ih (redS R w) (redS_iv hR hw) (fun z hz => hW z (List.mem_cons_of_mem _ hz))
    rw [List.foldl_cons]
    refine ⟨fun x hx => i1 x (k1 x hx), fun z hz => ?_⟩
    rcases List.mem_cons.mp hz with e | hz
    · rw [e]; exact i1 w k2
    · exact i2 z hz
theorem ker_W {W : List Nat} (hW : ∀ w ∈ W, w < 4096) : ∀ w ∈ W, xr (redW W) w = 0 := (ker_f W [] rIv_0 hW).2
theorem rIv_ne {R : List Nat} (h : rIv R) {y z : Nat} (hy : y ∈ R) (hz : z ∈ R) (hne : y ≠ z) : y &&& low z = 0 := by
  obtain ⟨i, hi, rfl⟩ := List.getElem_of_mem hy
  obtain ⟨j, hj, rfl⟩ := List.getElem_of_mem hz
  have hij : i ≠ j := fun e => by subst e; exact hne rfl
  have := h.2 i j hi hj hij
  rw [getDN hi, getDN hj] at this
  exact this
/-- one block alone, by the rows -/
theorem ld_one {R : List Nat} (h : rIv R) {ld : Nat → Nat} (hd : ldO R ld) {c : Nat} (hc : c < 12) : itr (lS ld) 12 0 (2 ^ c) = 2 ^ c ^^^ ld c := by
  have before : ∀ n i, i + n ≤ c → itr (lS ld) n i (2 ^ c) = 2 ^ c := by
    intro n
    induction n with
    | zero => intro i _; rfl
    | succ n ih =>
      intro i hi
      rw [itr_s]
      have e : lS ld i (2 ^ c) = 2 ^ c := by
        unfold lS
        rw [tb_pow, decide_eq_false (by omega), if_neg (by decide)]
      rw [e]
      exact ih (i + 1) (by omega)
  have after : ∀ n i, c < i → i + n ≤ 12 → itr (lS ld) n i (2 ^ c ^^^ ld c) = 2 ^ c ^^^ ld c := by
    intro n
    induction n with
    | zero => intro i _ _; rfl
    | succ n ih =>
      intro i hi hn
      rw [itr_s]
      have e : lS ld i (2 ^ c ^^^ ld c) = 2 ^ c ^^^ ld c := by
        unfold lS
        rw [Nat.testBit_xor, tb_pow, decide_eq_false (by omega), Bool.false_xor]
        rcases (hd.1 i (by omega)).2 with q | ⟨q1, q2⟩
        · rw [q, Nat.xor_zero, ite_self]
        · rcases (hd.1 c hc).2 with r | ⟨r1, r2⟩
          · rw [r, Nat.zero_testBit, if_neg (by decide)]
          · have hne : ld c ≠ ld i := fun e => by
              rw [e, q2] at r2
              have h9 : (2 ^ i).testBit c = (2 ^ c).testBit c := by rw [r2]
              rw [tb_pow, tb_pow, decide_eq_true rfl, decide_eq_false (by omega)] at h9
              exact absurd h9 (by decide)
            have := rIv_ne h r1 q1 hne
            rw [q2, and_pow] at this
            rw [this, if_neg (by decide)]
      rw [e]
      exact ih (i + 1) (by omega) (by omega)
  rw [show 12 = c + ((11 - c) + 1) by omega, itr_add, before c 0 (by omega), Nat.zero_add, itr_s]
  have e : lS ld c (2 ^ c) = 2 ^ c ^^^ ld c := by
    unfold lS
    rw [tb_pow, decide_eq_true rfl, if_pos rfl]
  rw [e]
  exact after _ _ (by omega) (by omega)
theorem pow_inj {a b : Nat} (h : 2 ^ a = 2 ^ b) : a = b := by
  have h9 : (2 ^ a).testBit b = (2 ^ b).testBit b := by rw [h]
  rw [tb_pow, tb_pow, decide_eq_true rfl] at h9
  exact of_decide_eq_true h9
theorem xor_eq0 {a b : Nat} (h : a ^^^ b = 0) : a = b := by
  have h1 : (a ^^^ b) ^^^ b = 0 ^^^ b := by rw [h]
  rw [xor_xor, Nat.zero_xor] at h1
  exact h1
/-- a block alone is told by the rows if some row is it -/
theorem ker_pow {vn : Nat → Nat} (hv : vOK vn) {W : List Nat} (hW : ∀ w ∈ W, w < 4096) {c : Nat} (hc : c < 12) : xr (redW W) (2 ^ c) = 0 ↔ (alnM (redW W)).testBit c = true := by
  obtain ⟨hR, _, ld, hd, hl, hlx⟩ := look_mk hv hW
  rw [← hlx _ (pow12 hc), ld_one hR hd hc]
  unfold alnM
  rw [aln_mem _ 0 c (fun y hy => (rIv_mem hR hy).1) hc, Nat.zero_testBit]
  constructor
  · intro h
    have e := xor_eq0 h
    right
    rcases (hd.1 c hc).2 with q | ⟨q, _⟩
    · rw [q] at e
      have := Nat.two_pow_pos c
      omega
    · rw [e]; exact q
  · rintro (h | h)
    · exact absurd h (by decide)
    · obtain ⟨b, hb, e1, e2⟩ := hd.2 _ h
      rw [low_pow hc] at e1
      rw [← pow_inj e1] at e2
      rw [e2, Nat.xor_self]
theorem mod_succ (m i : Nat) : m % 2 ^ (i + 1) = if m.testBit i = true then (m % 2 ^ i) ^^^ 2 ^ i else m % 2 ^ i := by
  apply Nat.eq_of_testBit_eq
  intro j
  rw [Nat.testBit_mod_two_pow]
  by_cases e : j = i
  · subst e
    cases h : m.testBit j
    · rw [if_neg (by decide), Nat.testBit_mod_two_pow, h]; simp
    · rw [if_pos rfl, Nat.testBit_xor, Nat.testBit_mod_two_pow, tb_pow]; simp
  · have e1 : (if m.testBit i = true then (m % 2 ^ i) ^^^ 2 ^ i else m % 2 ^ i).testBit j = (m % 2 ^ i).testBit j := by
      split
      · rw [Nat.testBit_xor, tb_pow, decide_eq_false (by omega), Bool.xor_false]
      · rfl
    rw [e1, Nat.testBit_mod_two_pow]
    congr 1
    exact decide_eq_decide.mpr (by omega)
theorem ker_sub {vn : Nat → Nat} (hv : vOK vn) {W : List Nat} (hW : ∀ w ∈ W, w < 4096) {m : Nat} (hm : m < 4096) (hs : subB m (alnM (redW W))) : xr (redW W) m = 0 := by
  obtain ⟨hR, _⟩ := look_mk hv hW
  have h0 : xr (redW W) 0 = 0 := by
    have := xr_lin hR 0 0
    rw [Nat.xor_self] at this
    have h2 := this
    rw [Nat.xor_self] at h2
    exact h2
  have key : ∀ i, i ≤ 12 → xr (redW W) (m % 2 ^ i) = 0 := by
    intro i
    induction i with
    | zero => intro _; rw [Nat.pow_zero, Nat.mod_one]; exact h0
    | succ i ih =>
      intro hi
      rw [mod_succ]
      split
      · next h =>
        rw [xr_lin hR, ih (by omega), (ker_pow hv hW (by omega)).mpr (hs i h)]
        rfl
      · exact ih (by omega)
  have := key 12 (Nat.le_refl 12)
  rw [Nat.mod_eq_of_lt (by omega)] at this
  exact this
/-- what is known came from the rows -/
def spI (W0 : List Nat) (K : Nat) (K1 : Nat) (W1 : List Nat) : Prop := K1 < 4096 ∧ subB K1 (K ||| alnM (redW W0)) ∧ ∀ w1 ∈ W1, ∃ w, w < 4096 ∧ xr (redW W0) w = 0 ∧ w &&& K = 0 ∧ w1 = andn w K1
theorem andn_andn (w a b : Nat) : andn (andn w a) b = andn w (a ||| b) := by
  apply Nat.eq_of_testBit_eq
  intro i
  rw [andn_t, andn_t, andn_t, Nat.testBit_or]
  cases w.testBit i <;> cases a.testBit i <;> cases b.testBit i <;> rfl
theorem spI_kn {W0 : List Nat} {K K1 m : Nat} {W1 : List Nat} (h : spI W0 K K1 W1) (hm : m < 4096) (hs : subB m (K ||| alnM (redW W0))) : spI W0 K (K1 ||| m) (knW m W1) := by
  refine ⟨or_lt h.1 hm, fun i hi => ?_, fun w1 hw => ?_⟩
  · rw [Nat.testBit_or] at hi
    cases q : K1.testBit i
    · rw [q, Bool.false_or] at hi; exact hs i hi
    · exact h.2.1 i q
  · obtain ⟨x, hx, rfl⟩ := List.mem_map.mp hw
    obtain ⟨w, h1, h2, h3, rfl⟩ := h.2.2 x hx
    exact ⟨w, h1, h2, h3, andn_andn w K1 m⟩
theorem spI_pl {vn : Nat → Nat} (hv : vOK vn) {W0 : List Nat} (hW0 : ∀ w ∈ W0, w < 4096) {K : Nat} : ∀ (n K1 : Nat) (tn : Int32) (W1 : List Nat), spI W0 K K1 W1 → spI W0 K (plM n K1 tn W1).1 (plM n K1 tn W1).2.2 := by
  intro n
  induction n with
  | zero => intro K1 tn W1 h; exact h
  | succ n ih =>
    intro K1 tn W1 h
    cases hf : fsM W1 with
    | none => rw [plM_none hf]; exact h
    | some p =>
      rw [plM_some hf]
      have hl := fsM_lt hf
      have hpc := fsM_pc hf
      have hmem := getD_mem hl
      generalize W1.getD p 0 = m at hpc hmem
      obtain ⟨w, h1, h2, h3, hw⟩ := h.2.2 m hmem
      have hm : m < 4096 := by rw [hw]; exact andn_lt h1
      refine ih _ _ _ (spI_kn ⟨h.1, h.2.1, fun z hz => h.2.2 z (List.mem_of_mem_eraseIdx hz)⟩ hm ?_)
      rcases (show pc m = 0 ∨ pc m = 1 by omega) with e | e
      · rw [pc_0 hm e]
        intro i hi
        rw [Nat.zero_testBit] at hi
        exact absurd hi (by decide)
      · obtain ⟨c, hc, rfl⟩ := pc_1 hm e
        obtain ⟨hR, _⟩ := look_mk hv hW0
        have hsub : subB (w &&& K1) (alnM (redW W0)) := by
          intro i hi
          rw [Nat.testBit_and] at hi
          have hwi : w.testBit i = true := by
            cases q : w.testBit i
            · rw [q, Bool.false_and] at hi; exact absurd hi (by decide)
            · rfl
          rw [hwi, Bool.true_and] at hi
          have h4 := h.2.1 i hi
          rw [Nat.testBit_or] at h4
          have h5 : (w &&& K).testBit i = false := by rw [h3]; exact Nat.zero_testBit i
          rw [Nat.testBit_and, hwi, Bool.true_and] at h5
          rw [h5, Bool.false_or] at h4
          exact h4
        have hk := ker_sub hv hW0 (Nat.lt_of_le_of_lt Nat.and_le_left h1) hsub
        have hp : xr (redW W0) (2 ^ c) = 0 := by
          rw [hw]
          unfold andn
          rw [xr_lin hR, h2, hk]
          rfl
        have hb := (ker_pow hv hW0 hc).mp hp
        intro i hi
        rw [tb_pow] at hi
        have hci := of_decide_eq_true hi
        subst hci
        rw [Nat.testBit_or, hb, Bool.or_true]
theorem spI_el {vn : Nat → Nat} (hv : vOK vn) {W0 : List Nat} (hW0 : ∀ w ∈ W0, w < 4096) {K : Nat} : ∀ (n i : Nat) (q : Nat × Int32 × List Nat), i + n ≤ 12 → spI W0 K q.1 q.2.2 → spI W0 K (itr (elS (alnM (redW W0))) n i q).1 (itr (elS (alnM (redW W0))) n i q).2.2 := by
  intro n
  induction n with
  | zero => intro i q _ h; exact h
  | succ n ih =>
    intro i q hi h
    rw [itr_s]
    refine ih (i + 1) _ (by omega) ?_
    unfold elS
    split
    · next ht =>
      split
      · exact h
      · refine spI_pl hv hW0 _ _ _ _ (spI_kn h (pow12 (by omega)) fun j hj => ?_)
        rw [tb_pow] at hj
        have hij := of_decide_eq_true hj
        subst hij
        rw [Nat.testBit_or, ht, Bool.or_true]
    · exact h
/-- what an elimination would find -/
theorem elim_all {vn : Nat → Nat} (hv : vOK vn) {nb : Nat} (hn : nb ≤ 12) {p : MQ5} (hi : MI nb p) {q : RS} (hq : RQ vn q p) : (elmQ nb p).1 = p.1 ||| alnM (redW p.2.2.2.2) ∧ p.1 &&& alnM (redW p.2.2.2.2) = 0 := by
  have hWk : ∀ w ∈ p.2.2.2.2, w < 4096 ∧ w &&& p.1 = 0 := MI_wOK hn hi
  have hW4 : ∀ w ∈ p.2.2.2.2, w < 4096 := fun w hw => (hWk w hw).1
  obtain ⟨_, _, _, hs, hf, _⟩ := elim_mk hv hn hq hi
  have hK4 := Nat.lt_of_lt_of_le hi.1 (pow_nb hn)
  have h0 : spI p.2.2.2.2 p.1 p.1 p.2.2.2.2 := ⟨hK4, subB_or, fun w hw => ⟨w, hW4 w hw, ker_W hW4 w hw, (hWk w hw).2, by unfold andn; rw [(hWk w hw).2, Nat.xor_zero]⟩⟩
  have h1 := spI_el hv hW4 (K := p.1) nb 0 (p.1, p.2.2.1, p.2.2.2.2) (by omega) h0
  have hsub : subB (elmQ nb p).1 (p.1 ||| alnM (redW p.2.2.2.2)) := h1.2.1
  have hfolt : alnM (redW p.2.2.2.2) < 4096 := alnM_lt (fun k hk => hW4 _ (getD_mem hk))
  constructor
  · apply Nat.eq_of_testBit_eq
    intro i
    cases hb : (p.1 ||| alnM (redW p.2.2.2.2)).testBit i
    · cases hc : (elmQ nb p).1.testBit i
      · rfl
      · rw [hsub i hc] at hb; exact absurd hb (by decide)
    · rw [Nat.testBit_or] at hb
      cases hk : p.1.testBit i
      · rw [hk, Bool.false_or] at hb
        by_cases h12 : i < 12
        · exact hf i (fo_lt hn (fun w hw => (hi.2.1 w hw).1) hb h12) hb
        · rw [tb_hi hfolt (by omega)] at hb; exact absurd hb (by decide)
      · exact hs i hk
  · rw [Nat.and_comm]
    exact fo_disj hWk
theorem ifEl_mk {vn : Nat → Nat} (hv : vOK vn) {nb : Nat} (hn : nb ≤ 12) {q : RS} {p : MQ5} (hq : RQ vn q p) (hi : MI nb p) : (findS q).2.2.2.2 = nI (pc (alnM (redW p.2.2.2.2))) := by
  obtain ⟨h1, _⟩ := elim_mk hv hn hq hi
  obtain ⟨h2, h3⟩ := elim_all hv hn hi hq
  rw [h1, h2, pc_disj h3, pk_sub (by omega), Nat.add_sub_cancel_left]
theorem pcN_top {m nb : Nat} (h : m < 2 ^ nb) : ∀ d, pcN m (nb + d) = pcN m nb := by
  intro d
  induction d with
  | zero => rfl
  | succ d ih =>
    show pcN m (nb + d) + bN m (nb + d) = _
    rw [ih, bN_t, Nat.testBit_lt_two_pow (Nat.lt_of_lt_of_le h (Nat.pow_le_pow_right (n := 2) (by decide) (Nat.le_add_right nb d)))]
    rfl
theorem pcN_all {m : Nat} : ∀ n, pcN m n = n → ∀ i, i < n → m.testBit i = true := by
  intro n
  induction n with
  | zero => intro _ i hi; exact absurd hi (Nat.not_lt_zero i)
  | succ n ih =>
    intro h i hi
    have h1 : pcN m n + bN m n = n + 1 := h
    have h2 := pcN_le m n
    have h3 := bN_le m n
    by_cases e : i = n
    · subst e
      have h4 : bN m i = 1 := by omega
      rw [bN_t] at h4
      cases q : m.testBit i
      · rw [q] at h4; exact absurd h4 (by decide)
      · rfl
    · exact ih (by omega) i (by omega)
theorem pc_done {K nb : Nat} (hn : nb ≤ 12) (hK : K < 2 ^ nb) : pc K = nb ↔ K = 2 ^ nb - 1 := by
  have ht : pc K = pcN K nb := by
    unfold pc
    rw [show 12 = nb + (12 - nb) by omega, pcN_top hK]
  rw [ht]
  constructor
  · intro h
    apply Nat.eq_of_testBit_eq
    intro i
    rw [Nat.testBit_two_pow_sub_one]
    by_cases hi : i < nb
    · rw [pcN_all nb h i hi, decide_eq_true hi]
    · rw [decide_eq_false hi, Nat.testBit_lt_two_pow (Nat.lt_of_lt_of_le hK (Nat.pow_le_pow_right (n := 2) (by decide) (by omega)))]
  · intro h
    refine pcN_full nb fun i hi => ?_
    rw [h, Nat.testBit_two_pow_sub_one, decide_eq_true hi]
theorem done_mk {nb : Nat} (hn : nb ≤ 12) {vn : Nat → Nat} {q : RS} {p : MQ5} (hq : RQ vn q p) (hi : MI nb p) : isDnQ nb q = isDM nb p := by
  unfold isDnQ isDM
  have h1 := pc_le p.1
  rw [hq.1, swar_pc (Nat.lt_of_lt_of_le hi.1 (pow_nb hn))]
  exact decide_eq_decide.mpr (by rw [nI_eq (by omega) (by omega)]; exact pc_done hn hi.1)
theorem gt_zero {a b : Nat} (ha : a ≤ 12) (hb : b ≤ 12) : 0 < nI b - nI a ↔ a < b := by
  rcases Nat.lt_or_ge a b with h | h
  · rw [pk_sub (Nat.le_of_lt h)]
    refine ⟨fun _ => h, fun _ => ?_⟩
    exact nI_lt (a := 0) (by omega) (by omega)
  · refine ⟨fun z => ?_, fun z => absurd z (by omega)⟩
    exfalso
    rcases Nat.eq_or_lt_of_le h with e | e
    · rw [e, nI_zero_sub] at z; exact absurd z (by decide)
    · have h1 := pk_sneg (a := b) (b := a) (by omega) e
      exact absurd z (Int32.not_lt.mpr (Int32.le_of_lt h1))
theorem help_mk {vn : Nat → Nat} (hv : vOK vn) {z : SS} (hr : vaR vn z.2.1) (h0 : 2 ≤ z.1) (hn : z.1 ≤ 12) {r : RR} {y : MR} (hq : RQ vn r.2 y.2) (hi : MI z.1 y.2) (k : Nat) : helpB z r k = hpM z.1 y k := by
  have hm := mskM_lt (nb := z.1) (by omega) k
  have hm4 := Nat.lt_of_lt_of_le hm (pow_nb hn)
  obtain ⟨li, K, go, tn, lo, W⟩ := y
  have ha : alR vn K r.2.2.1 := hq.2.1
  have hx := andn_lt (k := K) hm4
  have hxp := pc_le (andn (mskM z.1 k) K)
  unfold helpB hpM gtv
  rw [mixS_mk hv hr (by omega) hn k, leftOf_mk hv ha hm4, bcI_mk hv hx]
  refine decide_eq_decide.mpr ?_
  rw [show (1 : Int32) = nI 1 from rfl, nI_eq (by omega) (by omega)]
  show _ ↔ 0 < nI (pc (getM (mskM z.1 k) (K, go, tn, lo, W)).1) - nI (pc K)
  rw [gt_zero (pc_le _) (pc_le _)]
  constructor
  · intro h1
    rw [getM_1 h1]
    have hW : wOK K W := MI_wOK hn hi
    obtain ⟨_, _, _, h4, _⟩ := plM_inv (nb := z.1) (knW (andn (mskM z.1 k) K) W).length (K ||| andn (mskM z.1 k) K) tn (knW (andn (mskM z.1 k) K) W) (knW_wOK hW) (Nat.or_lt_two_pow hi.1 (andn_ltb hm)) (knW_ltb (fun w hw => (hi.2.1 w hw).1))
    have h5 := pc_sub h4
    rw [pc_disj (by rw [Nat.and_comm]; exact andn_disj _ _), h1] at h5
    show pc K < pc (plM (knW (andn (mskM z.1 k) K) W).length (K ||| andn (mskM z.1 k) K) tn (knW (andn (mskM z.1 k) K) W)).1
    omega
  · intro h1
    rcases Nat.lt_trichotomy (pc (andn (mskM z.1 k) K)) 1 with q | q | q
    · rw [getM_0 (by omega)] at h1
      exact absurd h1 (Nat.lt_irrefl _)
    · exact q
    · by_cases h24 : W.length < 24
      · rw [getM_w (by omega) h24] at h1
        exact absurd h1 (Nat.lt_irrefl _)
      · rw [getM_l (by omega) h24] at h1
        exact absurd h1 (Nat.lt_irrefl _)
theorem need_mk {vn : Nat → Nat} (hv : vOK vn) {z : SS} (hr : vaR vn z.2.1) (h0 : 2 ≤ z.1) (hn : z.1 ≤ 12) (fr : Nat) (el : Bool) : ∀ n tk q p, RQ vn q p → MI z.1 p → ndS z fr el n tk q = ndM z.1 fr el n tk p := by
  intro n
  induction n with
  | zero =>
    intro tk q p hq hi
    show (if isDnQ z.1 q = true then nI 100 else -1) = (if isDM z.1 p = true then nI 100 else -1)
    rw [done_mk hn hq hi]
  | succ n ih =>
    intro tk q p hq hi
    show (if isDnQ z.1 q = true then nI tk else ndS z fr el n (tk + 1) (stepQ z fr el tk q)) = (if isDM z.1 p = true then nI tk else ndM z.1 fr el n (tk + 1) (stpM z.1 fr el tk p))
    rw [done_mk hn hq hi]
    have hm := mskM_lt (nb := z.1) (by omega) (fr + tk)
    obtain ⟨_, g2, g3, _⟩ := get_mk hv hn hm hq hi
    have e : ndS z fr el n (tk + 1) (stepQ z fr el tk q) = ndM z.1 fr el n (tk + 1) (stpM z.1 fr el tk p) := by
      unfold stepQ stpM
      rw [mixS_mk hv hr (by omega) hn (fr + tk)]
      cases el
      · rw [if_neg (by decide), if_neg (by decide)]
        exact ih _ _ _ g2 g3
      · rw [if_pos rfl, if_pos rfl]
        obtain ⟨_, k2, k3, _⟩ := elim_mk hv hn g2 g3
        exact ih _ _ _ k2 k3
    rw [e]
theorem known_mk {vn : Nat → Nat} (hv : vOK vn) {va : Nat → Int32} (hr : vaR vn va) {r : RR} {y : MR} (hq : RQ vn r.2 y.2) (hK : y.2.1 < 4096) {b : Nat} (hb : b < 12) : knownF r b = knM va y.2.1 b := by
  unfold knownF knM
  rw [hq.1, hld_nI (by omega) (by omega), hq.2.1 b hb]
  cases y.2.1.testBit b
  · rfl
  · show nI (mk vn (2 ^ b)) >>> _ = va b
    rw [mkI_hi hv (pow12 hb), vl_pow hb, hr b]
theorem wait_mk {vn : Nat → Nat} (hv : vOK vn) {va : Nat → Int32} (hr : vaR vn va) {nb : Nat} (hn : nb ≤ 12) {r : RR} {y : MR} (hq : RQ vn r.2 y.2) (hi : MI nb y.2) (q9 j : Nat) : waitF r q9 j = if y.2.2.2.2.2.length ≤ q9 then -1 else if j = 0 then nI (y.2.2.2.2.2.getD q9 0) else vlM nb va (y.2.2.2.2.2.getD q9 0) := by
  unfold waitF
  rw [show r.2.2.2.1 = encW vn y.2.2.2.2.2 from hq.2.2.1, encW_len]
  by_cases h : y.2.2.2.2.2.length ≤ q9
  · rw [if_pos h, if_pos h]
  · rw [if_neg h, if_neg h, encW_getD (by omega)]
    have hw := (hi.2.1 _ (getD_mem (W := y.2.2.2.2.2) (p := q9) (by omega))).1
    have hw4 := Nat.lt_of_lt_of_le hw (pow_nb hn)
    rw [mkI_low hv hw4, mkI_hi hv hw4, vlM_vl hr hn hw]
theorem mix_mk {vn : Nat → Nat} (hv : vOK vn) {z : SS} (hr : vaR vn z.2.1) (h0 : 2 ≤ z.1) (hn : z.1 ≤ 12) (k j : Nat) : mixF z k j = if j = 0 then nI (pc (mskM z.1 k)) else if j = 1 then nI (mskM z.1 k) else vlM z.1 z.2.1 (mskM z.1 k) := by
  have hm := mskM_lt (nb := z.1) (by omega) k
  have hm4 := Nat.lt_of_lt_of_le hm (pow_nb hn)
  unfold mixF
  rw [mixS_mk hv hr (by omega) hn k, bcI_mk hv hm4, mkI_low hv hm4, mkI_hi hv hm4, vlM_vl hr hn hm]
theorem num_mk {vn : Nat → Nat} (hv : vOK vn) {nb : Nat} (hn : nb ≤ 12) {r : RR} {y : MR} (hl : r.1 = y.1) (hq : RQ vn r.2 y.2) (hi : MI nb y.2) (j : Nat) : numF nb r j = numM nb y j := by
  have hK := Nat.lt_of_lt_of_le hi.1 (pow_nb hn)
  have e8 : swar r.2.1 + (lookS r.2.2.2.1).2 = rnkM y.2 := rank_mk hv hn hq hi
  have e7 : isDn nb r = isDM nb y.2 := done_mk hn hq hi
  unfold numF numM
  rw [e8, e7, hl, hq.1, swar_pc hK, hq.2.2.1, encW_len, hq.2.2.2.1, hq.2.2.2.2.1, hq.2.2.2.2.2]
def RRq (vn : Nat → Nat) (nb B : Nat) (r : RR) (y : MR) : Prop := r.1 = y.1 ∧ RQ vn r.2 y.2 ∧ MI nb y.2 ∧ CN B y.2
def RZ (B : Nat) (z : SS) (y : MS) : Prop := ∃ vn, vOK vn ∧ vaR vn z.2.1 ∧ z.1 = y.1 ∧ z.2.1 = y.2.1 ∧ z.2.2.1 = y.2.2.1 ∧ 2 ≤ z.1 ∧ z.1 ≤ 12 ∧ ∀ i, i < 3 → RRq vn z.1 B (z.2.2.2 i) (y.2.2.2 i)
theorem CN_le {B B2 : Nat} {p : MQ5} (h : CN B p) (hb : B ≤ B2) : CN B2 p := by
  obtain ⟨G, T, O, h1, h2, h3, h4, h5⟩ := h
  exact ⟨G, T, O, h1, h2, h3, h4, Nat.le_trans h5 hb⟩
theorem RZ_le {B B2 : Nat} {z : SS} {y : MS} (h : RZ B z y) (hb : B ≤ B2) : RZ B2 z y := by
  obtain ⟨vn, h1, h2, h3, h4, h5, h6, h7, h8⟩ := h
  exact ⟨vn, h1, h2, h3, h4, h5, h6, h7, fun i hi => ⟨(h8 i hi).1, (h8 i hi).2.1, (h8 i hi).2.2.1, CN_le (h8 i hi).2.2.2 hb⟩⟩
theorem cnt_mk {p : RR → Bool} {f : MR → Bool} {rs : Nat → RR} {rc : Nat → MR} : ∀ n, (∀ i, i < n → p (rs i) = f (rc i)) → cntR p rs n = cntM f rc n := by
  intro n
  induction n with
  | zero => intro _; rfl
  | succ n ih =>
    intro h
    rw [cntR, cntM, ih (fun i hi => h i (by omega)), h n (by omega)]
theorem count_mk {B : Nat} {z : SS} {y : MS} (h : RZ B z y) (ke j : Nat) : countF z ke j = ctM y.1 y.2.1 y.2.2.1 y.2.2.2 ke j := by
  obtain ⟨vn, h1, h2, h3, h4, h5, h6, h7, h8⟩ := h
  have c2 : cntR (fun r => r.1) z.2.2.2 3 = cntM (cF 2 y.1) y.2.2.2 3 := cnt_mk 3 (fun i hi => by rw [cF, if_pos rfl]; exact (h8 i hi).1)
  have c3 : cntR (isDn z.1) z.2.2.2 3 = cntM (cF 3 y.1) y.2.2.2 3 := cnt_mk 3 (fun i hi => by
    rw [cF, if_neg (by decide), ← h3]
    exact done_mk h7 (h8 i hi).2.1 (h8 i hi).2.2.1)
  unfold countF ctM
  rw [c2, c3, allT_vl, h3, h4, h5]
theorem sum_mk {vn : Nat → Nat} (hv : vOK vn) {nb B m : Nat} (hn : nb ≤ 12) (hm : m < 2 ^ nb) {rs : Nat → RR} {rc : Nat → MR} : ∀ n, (∀ i, i < n → RRq vn nb B (rs i) (rc i)) → sumR (nI (mk vn m)) rs n = sumM m rc n := by
  intro n
  induction n with
  | zero => intro _; rfl
  | succ n ih =>
    intro h
    obtain ⟨e1, e2, e3, _⟩ := h n (by omega)
    rw [sumR, sumM, ih (fun i hi => h i (by omega)), e1]
    congr 1
    split
    · exact (get_mk hv hn hm e2 e3).1
    · rfl
theorem got_mk {vn : Nat → Nat} (hv : vOK vn) {nb B m : Nat} (hn : nb ≤ 12) (hm : m < 2 ^ nb) {r : RR} {y : MR} (h : RRq vn nb B r y) : RRq vn nb (B + 1) (gotR (nI (mk vn m)) r) (gotM m y) := by
  obtain ⟨e1, e2, e3, e4⟩ := h
  cases hy : y.1
  · rw [gotM_n hy, gotR_n (e1.trans hy)]
    exact ⟨e1, e2, e3, CN_le e4 (Nat.le_succ B)⟩
  · rw [gotM_y hy, gotR_y (e1.trans hy)]
    obtain ⟨_, g2, g3, _, g5⟩ := get_mk hv hn hm e2 e3
    exact ⟨e1.trans hy, g2, g3, g5 B e4⟩
theorem map3 {f : RR → RR} {g : MR → MR} {rs : Nat → RR} {rc : Nat → MR} {P : RR → MR → Prop} (h : ∀ i, i < 3 → P (f (rs i)) (g (rc i))) : ∀ i, i < 3 → P (mapR f rs 3 i) (mapQ g rc 3 i) := by
  intro i hi
  unfold mapR mapQ
  rw [if_pos hi, if_pos hi]
  exact h i hi
theorem send_mk {B : Nat} {z : SS} {y : MS} (h : RZ B z y) (k : Nat) : RZ (B + 1) (sendZ z k) (y.1, y.2.1, y.2.2.1 + 1, mapQ (gotM (mskM y.1 k)) y.2.2.2 3) ∧ sumR (mixS z.1 z.2.1 k) z.2.2.2 3 = sumM (mskM y.1 k) y.2.2.2 3 := by
  obtain ⟨vn, h1, h2, h3, h4, h5, h6, h7, h8⟩ := h
  have hm := mskM_lt (nb := z.1) (by omega) k
  have hx := mixS_mk h1 h2 (by omega) h7 k
  rw [← h3]
  constructor
  · refine ⟨vn, h1, h2, rfl, h4, ?_, h6, h7, ?_⟩
    · show z.2.2.1 + 1 = y.2.2.1 + 1
      rw [h5]
    · show ∀ i, i < 3 → RRq vn z.1 (B + 1) (mapR (gotR (mixS z.1 z.2.1 k)) z.2.2.2 3 i) (mapQ (gotM (mskM z.1 k)) y.2.2.2 3 i)
      rw [hx]
      exact map3 (P := fun r y => RRq vn z.1 (B + 1) r y) (fun i hi => got_mk h1 h7 hm (h8 i hi))
  · rw [hx]
    exact sum_mk h1 h7 hm 3 h8
