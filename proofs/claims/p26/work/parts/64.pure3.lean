def MI (nb : Nat) (p : MQ5) : Prop := p.1 < 2 ^ nb ∧ (∀ w ∈ p.2.2.2.2, w < 2 ^ nb ∧ w &&& p.1 = 0 ∧ 2 ≤ pc w) ∧ p.2.2.2.2.length ≤ 24
def CN (B : Nat) (p : MQ5) : Prop := ∃ G T O : Nat, p.2.1 = nI G ∧ p.2.2.1 = nI T ∧ p.2.2.2.1 = nI O ∧ T + O + p.2.2.2.2.length ≤ G ∧ G ≤ B
def RQ (vn : Nat → Nat) (q : RS) (p : MQ5) : Prop := q.1 = nI p.1 ∧ alR vn p.1 q.2.1 ∧ q.2.2.1 = encW vn p.2.2.2.2 ∧ q.2.2.2.1 = p.2.1 ∧ q.2.2.2.2.1 = p.2.2.1 ∧ q.2.2.2.2.2 = p.2.2.2.1
/-- fewer blocks -/
def subB (a b : Nat) : Prop := ∀ i, a.testBit i = true → b.testBit i = true
theorem subB_or {a b : Nat} : subB a (a ||| b) := fun i h => by rw [Nat.testBit_or, h]; rfl
theorem subB_tr {a b c : Nat} (h : subB a b) (h2 : subB b c) : subB a c := fun i hi => h2 i (h i hi)
theorem pcN_sub {a b : Nat} (h : subB a b) : ∀ i, pcN a i ≤ pcN b i := by
  intro i
  induction i with
  | zero => exact Nat.le_refl _
  | succ i ih =>
    rw [pcN, pcN, bN_t, bN_t]
    cases ha : a.testBit i
    · exact Nat.add_le_add ih (Nat.zero_le _)
    · rw [h i ha]; exact Nat.add_le_add ih (Nat.le_refl _)
theorem pc_sub {a b : Nat} (h : subB a b) : pc a ≤ pc b := pcN_sub h 12
theorem andn_ltb {a k nb : Nat} (h : a < 2 ^ nb) : andn a k < 2 ^ nb := by
  refine Nat.lt_pow_two_of_testBit _ fun i hi => ?_
  rw [andn_t, Nat.testBit_lt_two_pow (Nat.lt_of_lt_of_le h (Nat.pow_le_pow_right (n := 2) (by decide) hi))]
  rfl
theorem andn_disj (m K : Nat) : andn m K &&& K = 0 := by
  apply Nat.eq_of_testBit_eq
  intro i
  rw [Nat.testBit_and, andn_t, Nat.zero_testBit]
  cases m.testBit i <;> cases K.testBit i <;> rfl
theorem fsM_all {W : List Nat} (h : fsM W = none) : ∀ w ∈ W, 2 ≤ pc w := by
  intro w hw
  have := List.findIdx?_eq_none_iff.mp h w hw
  have := of_decide_eq_false this
  omega
theorem fsM_none2 {W : List Nat} (h : ∀ w ∈ W, 2 ≤ pc w) : fsM W = none :=
  List.findIdx?_eq_none_iff.mpr fun w hw => decide_eq_false (by have := h w hw; omega)
theorem knW_ltb {m nb : Nat} {W : List Nat} (h : ∀ w ∈ W, w < 2 ^ nb) : ∀ w ∈ knW m W, w < 2 ^ nb := by
  intro w hw
  obtain ⟨x, hx, rfl⟩ := List.mem_map.mp hw
  exact andn_ltb (h x hx)
theorem plM_inv {nb : Nat} : ∀ (n K : Nat) (tn : Int32) (W : List Nat), wOK K W → K < 2 ^ nb → (∀ w ∈ W, w < 2 ^ nb) →
    (plM n K tn W).1 < 2 ^ nb ∧ wOK (plM n K tn W).1 (plM n K tn W).2.2 ∧ (∀ w ∈ (plM n K tn W).2.2, w < 2 ^ nb) ∧ subB K (plM n K tn W).1 ∧ (W.length ≤ n → ∀ w ∈ (plM n K tn W).2.2, 2 ≤ pc w) ∧ ∃ c, (plM n K tn W).2.1 = tn + nI c ∧ c + (plM n K tn W).2.2.length ≤ W.length := by
  intro n
  induction n with
  | zero =>
    intro K tn W hW hK hb
    refine ⟨hK, hW, hb, fun _ h => h, fun hl w hw => ?_, 0, (Int32.add_zero tn).symm, Nat.le_of_eq (Nat.zero_add _)⟩
    have : W = [] := List.eq_nil_of_length_eq_zero (by omega)
    rw [this] at hw
    exact absurd hw List.not_mem_nil
  | succ n ih =>
    intro K tn W hW hK hb
    cases hf : fsM W with
    | none =>
      rw [plM_none hf]
      exact ⟨hK, hW, hb, fun _ h => h, fun _ => fsM_all hf, 0, (Int32.add_zero tn).symm, Nat.le_of_eq (Nat.zero_add _)⟩
    | some p =>
      have hl := fsM_lt hf
      have hm := getD_mem hl
      rw [plM_some hf]
      generalize W.getD p 0 = m at hm
      have hmb := hb m hm
      have hle : (knW m (W.eraseIdx p)).length = W.length - 1 := by rw [knW_len, erN_len hl]
      generalize htn : (if m = 0 then tn + 1 else tn) = tn9
      obtain ⟨h1, h2, h3, h4, h5, c, h6, h7⟩ := ih (K ||| m) tn9 (knW m (W.eraseIdx p)) (knW_wOK (erW_wOK hW)) (Nat.or_lt_two_pow hK hmb) (knW_ltb (fun w hw => hb w (List.mem_of_mem_eraseIdx hw)))
      refine ⟨h1, h2, h3, subB_tr subB_or h4, fun hn => h5 (by omega), ?_⟩
      by_cases h0 : m = 0
      · rw [if_pos h0] at htn
        refine ⟨c + 1, ?_, by omega⟩
        rw [h6, ← htn, nI_succ, Int32.add_assoc, Int32.add_comm 1]
      · rw [if_neg h0] at htn
        exact ⟨c, by rw [h6, ← htn], by omega⟩
theorem MI_wOK {nb : Nat} {p : MQ5} (hn : nb ≤ 12) (h : MI nb p) : wOK p.1 p.2.2.2.2 := fun w hw => ⟨Nat.lt_of_lt_of_le (h.2.1 w hw).1 (pow_nb hn), (h.2.1 w hw).2.1⟩
theorem nI_zero_sub (x : Int32) : x - x = 0 := Int32.sub_self x
/-- a mix comes -/
theorem get_mk {vn : Nat → Nat} (hv : vOK vn) {nb m : Nat} (hn : nb ≤ 12) (hm : m < 2 ^ nb) {q : RS} {p : MQ5} (hq : RQ vn q p) (hi : MI nb p) :
    (getS (nI (mk vn m)) q).1 = nI (pc (getM m p).1) - nI (pc p.1) ∧ RQ vn (getS (nI (mk vn m)) q).2 (getM m p) ∧ MI nb (getM m p) ∧ subB p.1 (getM m p).1 ∧ ∀ B, CN B p → CN (B + 1) (getM m p) := by
  obtain ⟨kb, al, L, go, tn, lo⟩ := q
  obtain ⟨K, go2, tn2, lo2, W⟩ := p
  obtain ⟨e1, ha, e3, e4, e5, e6⟩ := hq
  replace e1 : kb = nI K := e1
  replace e3 : L = encW vn W := e3
  replace e4 : go = go2 := e4
  replace e5 : tn = tn2 := e5
  replace e6 : lo = lo2 := e6
  replace ha : alR vn K al := ha
  subst e1 e3 e4 e5 e6
  have hmm := Nat.lt_of_lt_of_le hm (pow_nb hn)
  have hKb : K < 2 ^ nb := hi.1
  have hK := Nat.lt_of_lt_of_le hKb (pow_nb hn)
  have hW : wOK K W := MI_wOK hn hi
  have hWb : ∀ w ∈ W, w < 2 ^ nb := fun w hw => (hi.2.1 w hw).1
  have hpc : ∀ w ∈ W, 2 ≤ pc w := fun w hw => (hi.2.1 w hw).2.2
  have hlen : W.length ≤ 24 := hi.2.2
  have hlo : leftOf al (nI (mk vn m)) = nI (mk vn (andn m K)) := leftOf_mk hv ha hmm
  have hx := andn_lt (k := K) hmm
  have hxb := andn_ltb (k := K) hm
  have hxd := andn_disj m K
  have hxp := pc_le (andn m K)
  have hbc := bcI_mk hv hx
  by_cases h2 : 2 ≤ pc (andn m K)
  · have hge : 2 ≤ bcI (leftOf al (nI (mk vn m))) := by
      rw [hlo, hbc]
      exact (nI_leI (a := 2) (by omega) (by omega)).mpr h2
    by_cases h24 : W.length < 24
    · rw [getM_w (by omega) h24, getS_w (x := nI (mk vn m)) (q := (nI K, al, encW vn W, go, tn, lo)) hge (by show ¬ 24 ≤ (encW vn W).length; rw [encW_len]; omega)]
      refine ⟨(nI_zero_sub _).symm, ⟨rfl, ha, ?_, rfl, rfl, rfl⟩, ⟨hKb, fun w hw => ?_, ?_⟩, fun _ h => h, fun B hc => ?_⟩
      · show encW vn W ++ [leftOf al (nI (mk vn m))] = encW vn (W ++ [andn m K])
        rw [hlo]
        unfold encW
        rw [List.map_append]
        rfl
      · rcases List.mem_append.mp hw with hw | hw
        · exact hi.2.1 w hw
        · rw [List.mem_singleton.mp hw]; exact ⟨hxb, hxd, h2⟩
      · show (W ++ [andn m K]).length ≤ 24
        rw [List.length_append, List.length_singleton]; omega
      · obtain ⟨G, T, O, c1, c2, c3, c4, c5⟩ := hc
        have c4 : T + O + W.length ≤ G := c4
        refine ⟨G + 1, T, O, ?_, c2, c3, ?_, by omega⟩
        · show go + 1 = _
          rw [show go = nI G from c1, nI_1]
        · show T + O + (W ++ [andn m K]).length ≤ G + 1
          rw [List.length_append, List.length_singleton]; omega
    · rw [getM_l (by omega) h24, getS_l (x := nI (mk vn m)) (q := (nI K, al, encW vn W, go, tn, lo)) hge (by show 24 ≤ (encW vn W).length; rw [encW_len]; omega)]
      refine ⟨(nI_zero_sub _).symm, ⟨rfl, ha, rfl, rfl, rfl, rfl⟩, ⟨hKb, hi.2.1, hlen⟩, fun _ h => h, fun B hc => ?_⟩
      obtain ⟨G, T, O, c1, c2, c3, c4, c5⟩ := hc
      have c4 : T + O + W.length ≤ G := c4
      refine ⟨G + 1, T, O + 1, ?_, c2, ?_, ?_, by omega⟩
      · show go + 1 = _
        rw [show go = nI G from c1, nI_1]
      · show lo + 1 = _
        rw [show lo = nI O from c3, nI_1]
      · show T + (O + 1) + W.length ≤ G + 1
        omega
  · have hlt : ¬ 2 ≤ bcI (leftOf al (nI (mk vn m))) := by
      rw [hlo, hbc]
      exact fun z => h2 ((nI_leI (a := 2) (by omega) (by omega)).mp z)
    rw [getS_p (x := nI (mk vn m)) (q := (nI K, al, encW vn W, go, tn, lo)) hlt]
    obtain ⟨al2, e2, ha2⟩ := peel_mk hv (encW vn W).length (andn m K) K al W tn 0 hx (by omega) hxd ha hW hK
    rw [← hlo] at e2
    show (peelS (encW vn W).length (leftOf al (nI (mk vn m))) (nI K, al, encW vn W, tn, 0)).2.2.2.2 = _ ∧ RQ vn ((peelS (encW vn W).length (leftOf al (nI (mk vn m))) (nI K, al, encW vn W, tn, 0)).1, (peelS (encW vn W).length (leftOf al (nI (mk vn m))) (nI K, al, encW vn W, tn, 0)).2.1, (peelS (encW vn W).length (leftOf al (nI (mk vn m))) (nI K, al, encW vn W, tn, 0)).2.2.1, go + 1, (peelS (encW vn W).length (leftOf al (nI (mk vn m))) (nI K, al, encW vn W, tn, 0)).2.2.2.1, lo) _ ∧ _
    rw [e2]
    rw [encW_len] at ha2 ⊢
    by_cases h0 : andn m K = 0
    · have hp0 : pc (andn m K) = 0 := by rw [h0]; exact pc_of0
      rw [getM_0 hp0]
      have hpl : plM W.length (K ||| andn m K) (if andn m K = 0 then tn + 1 else tn) (knW (andn m K) W) = (K, tn + 1, W) := by
        rw [h0, Nat.or_zero, knW_0, if_pos rfl]
        exact plM_none (fsM_none2 hpc)
      rw [hpl] at ha2 ⊢
      refine ⟨?_, ⟨rfl, ha2, rfl, rfl, rfl, rfl⟩, ⟨hKb, hi.2.1, hlen⟩, fun _ h => h, fun B hc => ?_⟩
      · show 0 + (nI (pc K) - nI (pc K)) = nI (pc K) - nI (pc K)
        exact Int32.zero_add _
      · obtain ⟨G, T, O, c1, c2, c3, c4, c5⟩ := hc
        have c4 : T + O + W.length ≤ G := c4
        refine ⟨G + 1, T + 1, O, ?_, ?_, c3, ?_, by omega⟩
        · show go + 1 = _
          rw [show go = nI G from c1, nI_1]
        · show tn + 1 = _
          rw [show tn = nI T from c2, nI_1]
        · show T + 1 + O + W.length ≤ G + 1
          omega
    · have hp1 : pc (andn m K) = 1 := by
        rcases (show pc (andn m K) = 0 ∨ pc (andn m K) = 1 by omega) with h | h
        · exact absurd (pc_0 hx h) h0
        · exact h
      rw [getM_1 hp1, knW_len, if_neg h0]
      rw [if_neg h0] at ha2
      obtain ⟨i1, i2, i3, i4, i5, c, i6, i7⟩ := plM_inv (nb := nb) W.length (K ||| andn m K) tn (knW (andn m K) W) (knW_wOK hW) (Nat.or_lt_two_pow hKb hxb) (knW_ltb hWb)
      rw [knW_len] at i7
      refine ⟨?_, ⟨rfl, ha2, rfl, rfl, rfl, rfl⟩, ⟨i1, fun w hw => ⟨i3 w hw, (i2 w hw).2, i5 (by rw [knW_len]; exact Nat.le_refl _) w hw⟩, ?_⟩, subB_tr subB_or i4, fun B hc => ?_⟩
      · exact Int32.zero_add _
      · show (plM W.length (K ||| andn m K) tn (knW (andn m K) W)).2.2.length ≤ 24
        omega
      · obtain ⟨G, T, O, c1, c2, c3, c4, c5⟩ := hc
        have c4 : T + O + W.length ≤ G := c4
        refine ⟨G + 1, T + c, O, ?_, ?_, c3, ?_, by omega⟩
        · show go + 1 = _
          rw [show go = nI G from c1, nI_1]
        · show (plM W.length (K ||| andn m K) tn (knW (andn m K) W)).2.1 = _
          rw [i6, show tn = nI T from c2, nI_add]
        · show T + c + O + (plM W.length (K ||| andn m K) tn (knW (andn m K) W)).2.2.length ≤ G + 1
          omega
def vaR (vn : Nat → Nat) (va : Nat → Int32) : Prop := ∀ b, va b = nI (vn b)
theorem vlN_pow (vn : Nat → Nat) (b : Nat) : ∀ i, vlN vn (2 ^ b) i = if b < i then vn b else 0 := by
  intro i
  induction i with
  | zero => rfl
  | succ i ih =>
    rw [vlN, ih, tb_pow]
    by_cases e : b = i
    · subst e
      rw [if_neg (Nat.lt_irrefl b), decide_eq_true rfl, if_pos rfl, if_pos (Nat.lt_succ_self b), Nat.zero_xor]
    · rw [decide_eq_false e, if_neg (show ¬ (false = true) by decide), Nat.xor_zero]
      by_cases h : b < i
      · rw [if_pos h, if_pos (by omega)]
      · rw [if_neg h, if_neg (by omega)]
theorem vl_pow {vn : Nat → Nat} {b : Nat} (h : b < 12) : vl vn (2 ^ b) = vn b := by
  unfold vl
  rw [vlN_pow, if_pos h]
theorem mk_pow {vn : Nat → Nat} (hv : vOK vn) {va : Nat → Int32} (hr : vaR vn va) {b : Nat} (hb : b < 12) : (((1 : Int32) <<< (nI b &&& 31)) ||| (va b <<< ((12 : Int32) &&& 31))) = nI (mk vn (2 ^ b)) := by
  have h1 := hv b
  rw [shl1 (by omega), hr b, pk_shlN _ 12 (by decide) (by omega), nI_or]
  congr 1
  unfold mk
  rw [vl_pow hb, Nat.shiftLeft_eq]
  have hp := pow12 hb
  apply Nat.eq_of_testBit_eq
  intro i
  rw [Nat.testBit_or, Nat.testBit_xor, Nat.mul_comm (vn b), Nat.testBit_two_pow_mul]
  by_cases hi : 12 ≤ i
  · rw [tb_hi hp hi]; simp
  · rw [decide_eq_false hi]; simp
theorem foS_ff {vn : Nat → Nat} (hv : vOK vn) {nb m : Nat} (hn : nb ≤ 12) (hm : m < 4096) : ∀ n b, b < nb → foS nb (nI (mk vn m)) n b = ffN nb m n b := by
  intro n
  induction n with
  | zero => intro b _; rfl
  | succ n ih =>
    intro b hb
    unfold foS ffN
    rw [hld_mk hv hm (by omega)]
    cases h : m.testBit b
    · rw [if_pos (by decide : (if false = true then (1 : Int32) else 0) = 0), if_neg (show ¬ (false = true) by decide)]
    · rw [if_pos rfl, if_neg (by decide), if_pos rfl]
      have e : (if b + 1 < nb then b + 1 else 0) = (b + 1) % nb := by
        by_cases h2 : b + 1 < nb
        · rw [if_pos h2, Nat.mod_eq_of_lt h2]
        · rw [if_neg h2, show b + 1 = nb by omega, Nat.mod_self]
      rw [e]
      exact ih _ (Nat.mod_lt _ (by omega))
theorem or_free {m b : Nat} (h : m.testBit b = false) : m ^^^ 2 ^ b = m ||| 2 ^ b := by
  apply Nat.eq_of_testBit_eq
  intro i
  rw [Nat.testBit_xor, Nat.testBit_or, tb_pow]
  by_cases e : b = i
  · subst e; rw [h]; simp
  · rw [decide_eq_false e]; simp
theorem mix_fold {vn : Nat → Nat} (hv : vOK vn) {va : Nat → Int32} (hr : vaR vn va) {nb : Nat} (h0 : 0 < nb) (hn : nb ≤ 12) : ∀ n i x m, m < 2 ^ nb → pc m + n ≤ nb → (itr (fun _ q => stepM nb va q) n i (x, nI (mk vn m))).2 = nI (mk vn (mkS nb n x m)) := by
  intro n
  induction n with
  | zero => intro i x m _ _; rfl
  | succ n ih =>
    intro i x m hm hp
    have hm12 := Nat.lt_of_lt_of_le hm (pow_nb hn)
    have hb0 : (x * 171 + 11) % 30269 % nb < nb := Nat.mod_lt _ h0
    have hfl := ffN_lt (m := m) h0 nb _ hb0
    have hfree := ffN_free (m := m) h0 nb _ hb0 (ff_ex hb0 hn (by omega))
    rw [itr_s, mkS, ← ih (i + 1) _ _ (or_pow_lt hm hfl) (by rw [pc_or (by omega) hfree]; omega)]
    congr 2
    show ((x * 171 + 11) % 30269, nI (mk vn m) ^^^ _) = _
    rw [foS_ff hv hn hm12 nb _ hb0, mk_pow hv hr (by omega), nI_xor, ← mk_xor, or_free hfree]
theorem mixS_mk {vn : Nat → Nat} (hv : vOK vn) {va : Nat → Int32} (hr : vaR vn va) {nb : Nat} (h0 : 0 < nb) (hn : nb ≤ 12) (k : Nat) : mixS nb va k = nI (mk vn (mskM nb k)) := by
  unfold mixS mskM
  have h1 := mix_fold hv hr h0 hn (mnN nb ((k * 7919 + 17) % 30269 % 16)) 0 ((k * 7919 + 17) % 30269) 0 (Nat.two_pow_pos nb) (by rw [pc_of0, Nat.zero_add]; exact mnN_le _ _)
  rw [mk_0] at h1
  exact h1
theorem vlM_fold {vn : Nat → Nat} {va : Nat → Int32} (hr : vaR vn va) (m : Nat) : ∀ n i, itr (fun b v => v ^^^ (if m.testBit b = true then va b else 0)) n i (nI (vlN vn m i)) = nI (vlN vn m (i + n)) := by
  intro n
  induction n with
  | zero => intro i; rfl
  | succ n ih =>
    intro i
    have e : nI (vlN vn m i) ^^^ (if m.testBit i = true then va i else 0) = nI (vlN vn m (i + 1)) := by
      rw [vlN, ← nI_xor]
      congr 1
      split
      · exact hr i
      · rfl
    rw [itr_s]
    show itr _ n (i + 1) (nI (vlN vn m i) ^^^ (if m.testBit i = true then va i else 0)) = _
    rw [e, ih, show i + 1 + n = i + (n + 1) by omega]
theorem vlN_top {vn : Nat → Nat} {m nb : Nat} (h : m < 2 ^ nb) : ∀ d, vlN vn m (nb + d) = vlN vn m nb := by
  intro d
  induction d with
  | zero => rfl
  | succ d ih =>
    show vlN vn m (nb + d) ^^^ (if m.testBit (nb + d) = true then vn (nb + d) else 0) = _
    rw [ih, Nat.testBit_lt_two_pow (Nat.lt_of_lt_of_le h (Nat.pow_le_pow_right (n := 2) (by decide) (Nat.le_add_right nb d))), if_neg (by decide), Nat.xor_zero]
theorem vlM_vl {vn : Nat → Nat} {va : Nat → Int32} (hr : vaR vn va) {m nb : Nat} (hn : nb ≤ 12) (h : m < 2 ^ nb) : vlM nb va m = nI (vl vn m) := by
  unfold vlM vl
  have h1 := vlM_fold hr m nb 0
  rw [show nI (vlN vn m 0) = (0 : Int32) from rfl, Nat.zero_add] at h1
  rw [h1, show 12 = nb + (12 - nb) by omega, vlN_top h]
theorem itr_cg {σ : Type} {f g : Nat → σ → σ} : ∀ (n i : Nat) (s : σ), (∀ j s, i ≤ j → j < i + n → f j s = g j s) → itr f n i s = itr g n i s := by
  intro n
  induction n with
  | zero => intro i s _; rfl
  | succ n ih =>
    intro i s h
    rw [itr_s, itr_s, h i s (Nat.le_refl i) (by omega)]
    exact ih (i + 1) _ (fun j s h1 h2 => h j s (by omega) (by omega))
theorem allT_vl (va : Nat → Int32) (nb : Nat) : allT va nb = vlM nb va (2 ^ nb - 1) := by
  unfold allT vlM
  refine itr_cg nb 0 0 fun j s _ h => ?_
  rw [Nat.testBit_two_pow_sub_one, decide_eq_true (by omega), if_pos rfl]
def lS (ld : Nat → Nat) (i x : Nat) : Nat := if x.testBit i = true then x ^^^ ld i else x
theorem lS_lt {ld : Nat → Nat} {i x : Nat} (h : ld i < 4096) (hx : x < 4096) : lS ld i x < 4096 := by
  unfold lS
  split
  · exact xor_lt hx h
  · exact hx
theorem leftOf_ldf {vn : Nat → Nat} (hv : vOK vn) {ld : Nat → Nat} {al : Nat → Int32} (ha : ∀ b, b < 12 → al b = nI (mk vn (ld b)) ∧ ld b < 4096) : ∀ n i x, i + n = 12 → x < 4096 → itr (fun i r => if hldI r (nI i) = 0 then r else r ^^^ al i) n i (nI (mk vn x)) = nI (mk vn (itr (lS ld) n i x)) := by
  intro n
  induction n with
  | zero => intro i x _ _; rfl
  | succ n ih =>
    intro i x hi hx
    obtain ⟨h1, h2⟩ := ha i (by omega)
    rw [itr_s, itr_s, ← ih (i + 1) _ (by omega) (lS_lt h2 hx)]
    congr 1
    show (if hldI (nI (mk vn x)) (nI i) = 0 then nI (mk vn x) else nI (mk vn x) ^^^ al i) = _
    rw [hld_mk hv hx (by omega), h1]
    unfold lS
    cases x.testBit i
    · rw [if_neg (by decide : ¬ false = true), if_pos rfl, if_neg (by decide)]
    · rw [if_pos rfl, if_neg (by decide : ¬ (1 : Int32) = 0), if_pos rfl, nI_xor, mk_xor]
theorem leftOf_ld {vn : Nat → Nat} (hv : vOK vn) {ld : Nat → Nat} {al : Nat → Int32} (ha : ∀ b, b < 12 → al b = nI (mk vn (ld b)) ∧ ld b < 4096) {m : Nat} (hm : m < 4096) : leftOf al (nI (mk vn m)) = nI (mk vn (itr (lS ld) 12 0 m)) := leftOf_ldf hv ha 12 0 m rfl hm
/-- x taken out where it has its block u -/
def fU (u x z : Nat) : Nat := if z.testBit u = true then z ^^^ x else z
theorem xS_fU {u x z : Nat} (h : low x = 2 ^ u) : xS z x = fU u x z := by
  unfold xS fU
  rw [h]
  cases q : z.testBit u
  · rw [if_pos (and_pow.mpr q), if_neg (by decide)]
  · rw [if_neg (fun e => by rw [and_pow.mp e] at q; exact absurd q (by decide)), if_pos rfl]
theorem xor_xor (a b : Nat) : (a ^^^ b) ^^^ b = a := by rw [Nat.xor_assoc, Nat.xor_self, Nat.xor_zero]
theorem fU_x {u x z : Nat} (h : x.testBit u = true) : fU u x (z ^^^ x) = fU u x z := by
  unfold fU
  rw [Nat.testBit_xor, h]
  cases q : z.testBit u
  · rw [if_pos (by decide), if_neg (by decide), xor_xor]
  · rw [if_neg (by decide), if_pos rfl]
theorem clr_or {x y : Nat} : clr x y = y ∨ clr x y = y ^^^ x := by
  unfold clr
  split
  · exact Or.inl rfl
  · exact Or.inr rfl
/-- the rows and where each stands -/
def ldO (R : List Nat) (ld : Nat → Nat) : Prop := (∀ b, b < 12 → ld b < 4096 ∧ (ld b = 0 ∨ (ld b ∈ R ∧ low (ld b) = 2 ^ b))) ∧ ∀ y ∈ R, ∃ b, b < 12 ∧ low y = 2 ^ b ∧ ld b = y
theorem rIv_mem {R : List Nat} (h : rIv R) {y : Nat} (hy : y ∈ R) : y < 4096 ∧ y ≠ 0 := by
  obtain ⟨i, hi, rfl⟩ := List.getElem_of_mem hy
  have := h.1 i hi
  rw [getDN hi] at this
  exact this
theorem xr_mem {R : List Nat} (h : rIv R) {m y : Nat} (hm : m < 4096) (hy : y ∈ R) : xr R m &&& low y = 0 := by
  obtain ⟨i, hi, rfl⟩ := List.getElem_of_mem hy
  have := (xr_sp h hm).2 i hi
  rw [getDN hi] at this
  exact this
/-- one row more: what is left of a mix, by the row of rows -/
theorem xr_add {R : List Nat} (h : rIv R) {x u : Nat} (hx : x < 4096) (hu : low x = 2 ^ u) (tu : x.testBit u = true) (zu : ∀ j, j < u → x.testBit j = false) (hno : ∀ y ∈ R, x &&& low y = 0) (m : Nat) : xr (R.map (clr x) ++ [x]) m = fU u x (xr R m) := by
  have key : ∀ (L : List Nat), (∀ y ∈ L, y ∈ R) → ∀ z z', (z' = z ∨ z' = z ^^^ x) → ((L.map (clr x)).foldl xS z' = L.foldl xS z ∨ (L.map (clr x)).foldl xS z' = L.foldl xS z ^^^ x) := by
    intro L
    induction L with
    | nil => intro _ z z' hz; exact hz
    | cons y L ih =>
      intro hL z z' hz
      rw [List.map_cons, List.foldl_cons, List.foldl_cons]
      refine ih (fun y hy => hL y (List.mem_cons_of_mem _ hy)) _ _ ?_
      have hyR := hL y List.mem_cons_self
      obtain ⟨hy1, hy2⟩ := rIv_mem h hyR
      obtain ⟨a, _, ea, ta, za⟩ := low_sp hy1 hy2
      have hxa := hno y hyR
      rw [ea, and_pow] at hxa
      obtain ⟨_, c2, _, _, _⟩ := clr_sp hx hy1 ea ta za hu tu zu hxa
      rw [xS_fU c2, xS_fU ea]
      have e : z'.testBit a = z.testBit a := by
        rcases hz with hz | hz
        · rw [hz]
        · rw [hz, Nat.testBit_xor, hxa, Bool.xor_false]
      unfold fU
      rw [e]
      cases z.testBit a
      · rw [if_neg (by decide), if_neg (by decide)]; exact hz
      · rw [if_pos rfl, if_pos rfl]
        rcases hz with hz | hz <;> rcases clr_or (x := x) (y := y) with hc | hc <;> rw [hz, hc]
        · exact Or.inl rfl
        · right; ac_rfl
        · right; ac_rfl
        · left
          rw [x4, Nat.xor_self, Nat.xor_zero]
  unfold xr
  rw [List.foldl_append]
  show xS ((R.map (clr x)).foldl xS m) x = _
  rw [xS_fU hu]
  rcases key R (fun _ h => h) m m (Or.inl rfl) with e | e
  · rw [e]
  · rw [e, fU_x tu]
/-- the same, by blocks -/
theorem ld_add {R : List Nat} (h : rIv R) {ld : Nat → Nat} (hd : ldO R ld) {x u : Nat} (hx : x < 4096) (hu12 : u < 12) (hu : low x = 2 ^ u) (tu : x.testBit u = true) (zu : ∀ j, j < u → x.testBit j = false) (hno : ∀ y ∈ R, x &&& low y = 0) : ∀ n i z z', i + n = 12 → (z' = z ∨ z' = z ^^^ x) → (u < i → z'.testBit u = false) → itr (lS (fun b => if b = u then x else clr x (ld b))) n i z' = fU u x (itr (lS ld) n i z) := by
  intro n
  induction n with
  | zero =>
    intro i z z' hi hz hl
    have h1 := hl (by omega)
    show z' = fU u x z
    unfold fU
    rcases hz with hz | hz
    · rw [hz] at h1 ⊢
      rw [h1, if_neg (by decide)]
    · rw [hz, Nat.testBit_xor, tu] at h1
      cases q : z.testBit u
      · rw [q] at h1; exact absurd h1 (by decide)
      · rw [if_pos rfl]; exact hz
  | succ n ih =>
    intro i z z' hi hz hl
    rw [itr_s, itr_s]
    by_cases e : i = u
    · subst e
      have hl0 : ld i = 0 := by
        rcases (hd.1 i (by omega)).2 with q | ⟨q1, q2⟩
        · exact q
        · have := hno _ q1
          rw [q2, and_pow, tu] at this
          exact absurd this (by decide)
      have e1 : lS ld i z = z := by
        unfold lS
        rw [hl0, Nat.xor_zero, ite_self]
      have e2 : lS (fun b => if b = i then x else clr x (ld b)) i z' = fU i x z' := by
        show (if z'.testBit i = true then z' ^^^ (if i = i then x else clr x (ld i)) else z') = _
        rw [if_pos rfl]
        rfl
      rw [e1, e2]
      refine ih (i + 1) z _ (by omega) ?_ (fun _ => ?_)
      · unfold fU
        cases q : z'.testBit i
        · rw [if_neg (by decide)]; exact hz
        · rw [if_pos rfl]
          rcases hz with hz | hz
          · right; rw [hz]
          · left; rw [hz, xor_xor]
      · unfold fU
        cases q : z'.testBit i
        · rw [if_neg (by decide)]; exact q
        · rw [if_pos rfl, Nat.testBit_xor, q, tu]; rfl
    · rcases (hd.1 i (by omega)).2 with q | ⟨q1, q2⟩
      · have e1 : lS ld i z = z := by
          unfold lS
          rw [q, Nat.xor_zero, ite_self]
        have e2 : lS (fun b => if b = u then x else clr x (ld b)) i z' = z' := by
          show (if z'.testBit i = true then z' ^^^ (if i = u then x else clr x (ld i)) else z') = _
          rw [if_neg e, q]
          have : clr x 0 = 0 := by unfold clr; rw [Nat.zero_and, if_pos rfl]
          rw [this, Nat.xor_zero, ite_self]
        rw [e1, e2]
        exact ih (i + 1) z z' (by omega) hz (fun h2 => hl (by omega))
      · obtain ⟨hy1, hy2⟩ := rIv_mem h q1
        obtain ⟨a, _, ea, ta, za⟩ := low_sp hy1 hy2
        have hai : a = i := by
          have := ea.symm.trans q2
          have h8 := congrArg (fun w => w.testBit i) this
          have h9 : (2 ^ a).testBit i = (2 ^ i).testBit i := h8
          rw [tb_pow, tb_pow, decide_eq_true rfl] at h9
          exact of_decide_eq_true h9
        subst hai
        have hxa := hno _ q1
        rw [ea, and_pow] at hxa
        obtain ⟨_, _, _, c4, _⟩ := clr_sp hx hy1 ea ta za hu tu zu hxa
        have et : z'.testBit a = z.testBit a := by
          rcases hz with hz | hz
          · rw [hz]
          · rw [hz, Nat.testBit_xor, hxa, Bool.xor_false]
        refine ih (a + 1) _ _ (by omega) ?_ (fun h2 => ?_)
        · show ((if z'.testBit a = true then z' ^^^ (if a = u then x else clr x (ld a)) else z') = (if z.testBit a = true then z ^^^ ld a else z)) ∨ (if z'.testBit a = true then z' ^^^ (if a = u then x else clr x (ld a)) else z') = (if z.testBit a = true then z ^^^ ld a else z) ^^^ x
          rw [et, if_neg e]
          cases z.testBit a
          · rw [if_neg (by decide), if_neg (by decide)]; exact hz
          · rw [if_pos rfl, if_pos rfl]
            rcases hz with hz | hz <;> rcases clr_or (x := x) (y := ld a) with hc | hc <;> rw [hz, hc]
            · exact Or.inl rfl
            · right; ac_rfl
            · right; ac_rfl
            · left; rw [x4, Nat.xor_self, Nat.xor_zero]
        · have h3 := hl (by omega)
          show (if z'.testBit a = true then z' ^^^ (if a = u then x else clr x (ld a)) else z').testBit u = false
          rw [if_neg e]
          split
          · rw [Nat.testBit_xor, h3, c4]; rfl
          · exact h3
