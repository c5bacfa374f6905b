/-! the looks -/
theorem pcN_top {m nb : Nat} (h : m < 2 ^ nb) : ∀ d, pcN m (nb + d) = pcN m nb := by
  intro d
  induction d with
  | zero => rfl
  | succ d ih =>
    show pcN m (nb + d) + bN m (nb + d) = _
    rw [ih, bN_t, Nat.testBit_lt_two_pow (Nat.lt_of_lt_of_le h (Nat.pow_le_pow_right (n := 2) (by decide) (Nat.le_add_right nb d)))]
    rfl
theorem pcN_all {m : Nat} : ∀ n, pcN m n = n → ∀ i, i < n → m.testBit i = true := by
  intro n
  induction n with
  | zero => intro _ i hi; exact absurd hi (Nat.not_lt_zero i)
  | succ n ih =>
    intro h i hi
    have h1 : pcN m n + bN m n = n + 1 := h
    have h2 := pcN_le m n
    have h3 := bN_le m n
    by_cases e : i = n
    · subst e
      have h4 : bN m i = 1 := by omega
      rw [bN_t] at h4
      cases q : m.testBit i
      · rw [q] at h4; exact absurd h4 (by decide)
      · rfl
    · exact ih (by omega) i (by omega)
theorem pc_done {K nb : Nat} (hn : nb ≤ 12) (hK : K < 2 ^ nb) : pc K = nb ↔ K = 2 ^ nb - 1 := by
  have ht : pc K = pcN K nb := by
    unfold pc
    rw [show 12 = nb + (12 - nb) by omega, pcN_top hK]
  rw [ht]
  constructor
  · intro h
    apply Nat.eq_of_testBit_eq
    intro i
    rw [Nat.testBit_two_pow_sub_one]
    by_cases hi : i < nb
    · rw [pcN_all nb h i hi, decide_eq_true hi]
    · rw [decide_eq_false hi, Nat.testBit_lt_two_pow (Nat.lt_of_lt_of_le hK (Nat.pow_le_pow_right (n := 2) (by decide) (by omega)))]
  · intro h
    refine pcN_full nb fun i hi => ?_
    rw [h, Nat.testBit_two_pow_sub_one, decide_eq_true hi]
theorem done_mk {nb : Nat} (hn : nb ≤ 12) {vn : Nat → Nat} {q : RS} {p : MQ5} (hq : RQ vn q p) (hi : MI nb p) : isDnQ nb q = isDM nb p := by
  unfold isDnQ isDM
  have h1 := pc_le p.1
  rw [hq.1, swar_pc (Nat.lt_of_lt_of_le hi.1 (pow_nb hn))]
  exact decide_eq_decide.mpr (by rw [nI_eq (by omega) (by omega)]; exact pc_done hn hi.1)
theorem gt_zero {a b : Nat} (ha : a ≤ 12) (hb : b ≤ 12) : 0 < nI b - nI a ↔ a < b := by
  rcases Nat.lt_or_ge a b with h | h
  · rw [pk_sub (Nat.le_of_lt h)]
    refine ⟨fun _ => h, fun _ => ?_⟩
    exact nI_lt (a := 0) (by omega) (by omega)
  · refine ⟨fun z => ?_, fun z => absurd z (by omega)⟩
    exfalso
    rcases Nat.eq_or_lt_of_le h with e | e
    · rw [e, nI_zero_sub] at z; exact absurd z (by decide)
    · have h1 := pk_sneg (a := b) (b := a) (by omega) e
      exact absurd z (Int32.not_lt.mpr (Int32.le_of_lt h1))
theorem help_mk {vn : Nat → Nat} (hv : vOK vn) {z : SS} (hr : vaR vn z.2.1) (h0 : 2 ≤ z.1) (hn : z.1 ≤ 12) {r : RR} {y : MR} (hq : RQ vn r.2 y.2) (hi : MI z.1 y.2) (k : Nat) : helpB z r k = hpM z.1 y k := by
  have hm := mskM_lt (nb := z.1) (by omega) k
  have hm4 := Nat.lt_of_lt_of_le hm (pow_nb hn)
  obtain ⟨li, K, go, tn, lo, W⟩ := y
  have ha : alR vn K r.2.2.1 := hq.2.1
  have hx := andn_lt (k := K) hm4
  have hxp := pc_le (andn (mskM z.1 k) K)
  unfold helpB hpM gtv
  rw [mixS_mk hv hr (by omega) hn k, leftOf_mk hv ha hm4, bcI_mk hv hx]
  refine decide_eq_decide.mpr ?_
  rw [show (1 : Int32) = nI 1 from rfl, nI_eq (by omega) (by omega)]
  show _ ↔ 0 < nI (pc (getM (mskM z.1 k) (K, go, tn, lo, W)).1) - nI (pc K)
  rw [gt_zero (pc_le _) (pc_le _)]
  constructor
  · intro h1
    rw [getM_1 h1]
    have hW : wOK K W := MI_wOK hn hi
    obtain ⟨_, _, _, h4, _⟩ := plM_inv (nb := z.1) (knW (andn (mskM z.1 k) K) W).length (K ||| andn (mskM z.1 k) K) tn (knW (andn (mskM z.1 k) K) W) (knW_wOK hW) (Nat.or_lt_two_pow hi.1 (andn_ltb hm)) (knW_ltb (fun w hw => (hi.2.1 w hw).1))
    have h5 := pc_sub h4
    rw [pc_disj (by rw [Nat.and_comm]; exact andn_disj _ _), h1] at h5
    show pc K < pc (plM (knW (andn (mskM z.1 k) K) W).length (K ||| andn (mskM z.1 k) K) tn (knW (andn (mskM z.1 k) K) W)).1
    omega
  · intro h1
    rcases Nat.lt_trichotomy (pc (andn (mskM z.1 k) K)) 1 with q | q | q
    · rw [getM_0 (by omega)] at h1
      exact absurd h1 (Nat.lt_irrefl _)
    · exact q
    · by_cases h24 : W.length < 24
      · rw [getM_w (by omega) h24] at h1
        exact absurd h1 (Nat.lt_irrefl _)
      · rw [getM_l (by omega) h24] at h1
        exact absurd h1 (Nat.lt_irrefl _)
theorem need_mk {vn : Nat → Nat} (hv : vOK vn) {z : SS} (hr : vaR vn z.2.1) (h0 : 2 ≤ z.1) (hn : z.1 ≤ 12) (fr : Nat) (el : Bool) : ∀ n tk q p, RQ vn q p → MI z.1 p → ndS z fr el n tk q = ndM z.1 fr el n tk p := by
  intro n
  induction n with
  | zero =>
    intro tk q p hq hi
    show (if isDnQ z.1 q = true then nI 100 else -1) = (if isDM z.1 p = true then nI 100 else -1)
    rw [done_mk hn hq hi]
  | succ n ih =>
    intro tk q p hq hi
    show (if isDnQ z.1 q = true then nI tk else ndS z fr el n (tk + 1) (stepQ z fr el tk q)) = (if isDM z.1 p = true then nI tk else ndM z.1 fr el n (tk + 1) (stpM z.1 fr el tk p))
    rw [done_mk hn hq hi]
    have hm := mskM_lt (nb := z.1) (by omega) (fr + tk)
    obtain ⟨_, g2, g3, _⟩ := get_mk hv hn hm hq hi
    have e : ndS z fr el n (tk + 1) (stepQ z fr el tk q) = ndM z.1 fr el n (tk + 1) (stpM z.1 fr el tk p) := by
      unfold stepQ stpM
      rw [mixS_mk hv hr (by omega) hn (fr + tk)]
      cases el
      · rw [if_neg (by decide), if_neg (by decide)]
        exact ih _ _ _ g2 g3
      · rw [if_pos rfl, if_pos rfl]
        obtain ⟨_, k2, k3, _⟩ := elim_mk hv hn g2 g3
        exact ih _ _ _ k2 k3
    rw [e]
theorem known_mk {vn : Nat → Nat} (hv : vOK vn) {va : Nat → Int32} (hr : vaR vn va) {r : RR} {y : MR} (hq : RQ vn r.2 y.2) (hK : y.2.1 < 4096) {b : Nat} (hb : b < 12) : knownF r b = knM va y.2.1 b := by
  unfold knownF knM
  rw [hq.1, hld_nI (by omega) (by omega), hq.2.1 b hb]
  cases y.2.1.testBit b
  · rfl
  · show nI (mk vn (2 ^ b)) >>> _ = va b
    rw [mkI_hi hv (pow12 hb), vl_pow hb, hr b]
theorem wait_mk {vn : Nat → Nat} (hv : vOK vn) {va : Nat → Int32} (hr : vaR vn va) {nb : Nat} (hn : nb ≤ 12) {r : RR} {y : MR} (hq : RQ vn r.2 y.2) (hi : MI nb y.2) (q9 j : Nat) : waitF r q9 j = if y.2.2.2.2.2.length ≤ q9 then -1 else if j = 0 then nI (y.2.2.2.2.2.getD q9 0) else vlM nb va (y.2.2.2.2.2.getD q9 0) := by
  unfold waitF
  rw [show r.2.2.2.1 = encW vn y.2.2.2.2.2 from hq.2.2.1, encW_len]
  by_cases h : y.2.2.2.2.2.length ≤ q9
  · rw [if_pos h, if_pos h]
  · rw [if_neg h, if_neg h, encW_getD (by omega)]
    have hw := (hi.2.1 _ (getD_mem (W := y.2.2.2.2.2) (p := q9) (by omega))).1
    have hw4 := Nat.lt_of_lt_of_le hw (pow_nb hn)
    rw [mkI_low hv hw4, mkI_hi hv hw4, vlM_vl hr hn hw]
theorem mix_mk {vn : Nat → Nat} (hv : vOK vn) {z : SS} (hr : vaR vn z.2.1) (h0 : 2 ≤ z.1) (hn : z.1 ≤ 12) (k j : Nat) : mixF z k j = if j = 0 then nI (pc (mskM z.1 k)) else if j = 1 then nI (mskM z.1 k) else vlM z.1 z.2.1 (mskM z.1 k) := by
  have hm := mskM_lt (nb := z.1) (by omega) k
  have hm4 := Nat.lt_of_lt_of_le hm (pow_nb hn)
  unfold mixF
  rw [mixS_mk hv hr (by omega) hn k, bcI_mk hv hm4, mkI_low hv hm4, mkI_hi hv hm4, vlM_vl hr hn hm]
theorem num_mk {vn : Nat → Nat} (hv : vOK vn) {nb : Nat} (hn : nb ≤ 12) {r : RR} {y : MR} (hl : r.1 = y.1) (hq : RQ vn r.2 y.2) (hi : MI nb y.2) (j : Nat) : numF nb r j = numM nb y j := by
  have hK := Nat.lt_of_lt_of_le hi.1 (pow_nb hn)
  have e8 : swar r.2.1 + (lookS r.2.2.2.1).2 = rnkM y.2 := rank_mk hv hn hq hi
  have e7 : isDn nb r = isDM nb y.2 := done_mk hn hq hi
  unfold numF numM
  rw [e8, e7, hl, hq.1, swar_pc hK, hq.2.2.1, encW_len, hq.2.2.2.1, hq.2.2.2.2.1, hq.2.2.2.2.2]
/-! the states -/
def RRq (vn : Nat → Nat) (nb B : Nat) (r : RR) (y : MR) : Prop := r.1 = y.1 ∧ RQ vn r.2 y.2 ∧ MI nb y.2 ∧ CN B y.2
def RZ (B : Nat) (z : SS) (y : MS) : Prop := ∃ vn, vOK vn ∧ vaR vn z.2.1 ∧ z.1 = y.1 ∧ z.2.1 = y.2.1 ∧ z.2.2.1 = y.2.2.1 ∧ 2 ≤ z.1 ∧ z.1 ≤ 12 ∧ ∀ i, i < 3 → RRq vn z.1 B (z.2.2.2 i) (y.2.2.2 i)
theorem CN_le {B B2 : Nat} {p : MQ5} (h : CN B p) (hb : B ≤ B2) : CN B2 p := by
  obtain ⟨G, T, O, h1, h2, h3, h4, h5⟩ := h
  exact ⟨G, T, O, h1, h2, h3, h4, Nat.le_trans h5 hb⟩
theorem RZ_le {B B2 : Nat} {z : SS} {y : MS} (h : RZ B z y) (hb : B ≤ B2) : RZ B2 z y := by
  obtain ⟨vn, h1, h2, h3, h4, h5, h6, h7, h8⟩ := h
  exact ⟨vn, h1, h2, h3, h4, h5, h6, h7, fun i hi => ⟨(h8 i hi).1, (h8 i hi).2.1, (h8 i hi).2.2.1, CN_le (h8 i hi).2.2.2 hb⟩⟩
theorem cnt_mk {p : RR → Bool} {f : MR → Bool} {rs : Nat → RR} {rc : Nat → MR} : ∀ n, (∀ i, i < n → p (rs i) = f (rc i)) → cntR p rs n = cntM f rc n := by
  intro n
  induction n with
  | zero => intro _; rfl
  | succ n ih =>
    intro h
    rw [cntR, cntM, ih (fun i hi => h i (by omega)), h n (by omega)]
theorem count_mk {B : Nat} {z : SS} {y : MS} (h : RZ B z y) (ke j : Nat) : countF z ke j = ctM y.1 y.2.1 y.2.2.1 y.2.2.2 ke j := by
  obtain ⟨vn, h1, h2, h3, h4, h5, h6, h7, h8⟩ := h
  have c2 : cntR (fun r => r.1) z.2.2.2 3 = cntM (cF 2 y.1) y.2.2.2 3 := cnt_mk 3 (fun i hi => by rw [cF, if_pos rfl]; exact (h8 i hi).1)
  have c3 : cntR (isDn z.1) z.2.2.2 3 = cntM (cF 3 y.1) y.2.2.2 3 := cnt_mk 3 (fun i hi => by
    rw [cF, if_neg (by decide), ← h3]
    exact done_mk h7 (h8 i hi).2.1 (h8 i hi).2.2.1)
  unfold countF ctM
  rw [c2, c3, allT_vl, h3, h4, h5]
theorem sum_mk {vn : Nat → Nat} (hv : vOK vn) {nb B m : Nat} (hn : nb ≤ 12) (hm : m < 2 ^ nb) {rs : Nat → RR} {rc : Nat → MR} : ∀ n, (∀ i, i < n → RRq vn nb B (rs i) (rc i)) → sumR (nI (mk vn m)) rs n = sumM m rc n := by
  intro n
  induction n with
  | zero => intro _; rfl
  | succ n ih =>
    intro h
    obtain ⟨e1, e2, e3, _⟩ := h n (by omega)
    rw [sumR, sumM, ih (fun i hi => h i (by omega)), e1]
    congr 1
    split
    · exact (get_mk hv hn hm e2 e3).1
    · rfl
theorem got_mk {vn : Nat → Nat} (hv : vOK vn) {nb B m : Nat} (hn : nb ≤ 12) (hm : m < 2 ^ nb) {r : RR} {y : MR} (h : RRq vn nb B r y) : RRq vn nb (B + 1) (gotR (nI (mk vn m)) r) (gotM m y) := by
  obtain ⟨e1, e2, e3, e4⟩ := h
  cases hy : y.1
  · rw [gotM_n hy, gotR_n (e1.trans hy)]
    exact ⟨e1, e2, e3, CN_le e4 (Nat.le_succ B)⟩
  · rw [gotM_y hy, gotR_y (e1.trans hy)]
    obtain ⟨_, g2, g3, _, g5⟩ := get_mk hv hn hm e2 e3
    exact ⟨e1.trans hy, g2, g3, g5 B e4⟩
theorem map3 {f : RR → RR} {g : MR → MR} {rs : Nat → RR} {rc : Nat → MR} {P : RR → MR → Prop} (h : ∀ i, i < 3 → P (f (rs i)) (g (rc i))) : ∀ i, i < 3 → P (mapR f rs 3 i) (mapQ g rc 3 i) := by
  intro i hi
  unfold mapR mapQ
  rw [if_pos hi, if_pos hi]
  exact h i hi
theorem send_mk {B : Nat} {z : SS} {y : MS} (h : RZ B z y) (k : Nat) : RZ (B + 1) (sendZ z k) (y.1, y.2.1, y.2.2.1 + 1, mapQ (gotM (mskM y.1 k)) y.2.2.2 3) ∧ sumR (mixS z.1 z.2.1 k) z.2.2.2 3 = sumM (mskM y.1 k) y.2.2.2 3 := by
  obtain ⟨vn, h1, h2, h3, h4, h5, h6, h7, h8⟩ := h
  have hm := mskM_lt (nb := z.1) (by omega) k
  have hx := mixS_mk h1 h2 (by omega) h7 k
  rw [← h3]
  constructor
  · refine ⟨vn, h1, h2, rfl, h4, ?_, h6, h7, ?_⟩
    · show z.2.2.1 + 1 = y.2.2.1 + 1
      rw [h5]
    · show ∀ i, i < 3 → RRq vn z.1 (B + 1) (mapR (gotR (mixS z.1 z.2.1 k)) z.2.2.2 3 i) (mapQ (gotM (mskM z.1 k)) y.2.2.2 3 i)
      rw [hx]
      exact map3 (P := fun r y => RRq vn z.1 (B + 1) r y) (fun i hi => got_mk h1 h7 hm (h8 i hi))
  · rw [hx]
    exact sum_mk h1 h7 hm 3 h8
