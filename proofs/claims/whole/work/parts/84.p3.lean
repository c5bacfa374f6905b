/-! a receiver of the class and one of the reference -/
def MI (nb : Nat) (p : MQ5) : Prop := p.1 < 2 ^ nb ∧ (∀ w ∈ p.2.2.2.2, w < 2 ^ nb ∧ w &&& p.1 = 0 ∧ 2 ≤ pc w) ∧ p.2.2.2.2.length ≤ 24
def CN (B : Nat) (p : MQ5) : Prop := ∃ G T O : Nat, p.2.1 = nI G ∧ p.2.2.1 = nI T ∧ p.2.2.2.1 = nI O ∧ T + O + p.2.2.2.2.length ≤ G ∧ G ≤ B
def RQ (vn : Nat → Nat) (q : RS) (p : MQ5) : Prop := q.1 = nI p.1 ∧ alR vn p.1 q.2.1 ∧ q.2.2.1 = encW vn p.2.2.2.2 ∧ q.2.2.2.1 = p.2.1 ∧ q.2.2.2.2.1 = p.2.2.1 ∧ q.2.2.2.2.2 = p.2.2.2.1
/-- fewer blocks -/
def subB (a b : Nat) : Prop := ∀ i, a.testBit i = true → b.testBit i = true
theorem subB_or {a b : Nat} : subB a (a ||| b) := fun i h => by rw [Nat.testBit_or, h]; rfl
theorem subB_tr {a b c : Nat} (h : subB a b) (h2 : subB b c) : subB a c := fun i hi => h2 i (h i hi)
theorem pcN_sub {a b : Nat} (h : subB a b) : ∀ i, pcN a i ≤ pcN b i := by
  intro i
  induction i with
  | zero => exact Nat.le_refl _
  | succ i ih =>
    rw [pcN, pcN, bN_t, bN_t]
    cases ha : a.testBit i
    · exact Nat.add_le_add ih (Nat.zero_le _)
    · rw [h i ha]; exact Nat.add_le_add ih (Nat.le_refl _)
theorem pc_sub {a b : Nat} (h : subB a b) : pc a ≤ pc b := pcN_sub h 12
theorem andn_ltb {a k nb : Nat} (h : a < 2 ^ nb) : andn a k < 2 ^ nb := by
  refine Nat.lt_pow_two_of_testBit _ fun i hi => ?_
  rw [andn_t, Nat.testBit_lt_two_pow (Nat.lt_of_lt_of_le h (Nat.pow_le_pow_right (n := 2) (by decide) hi))]
  rfl
theorem andn_disj (m K : Nat) : andn m K &&& K = 0 := by
  apply Nat.eq_of_testBit_eq
  intro i
  rw [Nat.testBit_and, andn_t, Nat.zero_testBit]
  cases m.testBit i <;> cases K.testBit i <;> rfl
theorem fsM_all {W : List Nat} (h : fsM W = none) : ∀ w ∈ W, 2 ≤ pc w := by
  intro w hw
  have := List.findIdx?_eq_none_iff.mp h w hw
  have := of_decide_eq_false this
  omega
theorem fsM_none2 {W : List Nat} (h : ∀ w ∈ W, 2 ≤ pc w) : fsM W = none :=
  List.findIdx?_eq_none_iff.mpr fun w hw => decide_eq_false (by have := h w hw; omega)
theorem knW_ltb {m nb : Nat} {W : List Nat} (h : ∀ w ∈ W, w < 2 ^ nb) : ∀ w ∈ knW m W, w < 2 ^ nb := by
  intro w hw
  obtain ⟨x, hx, rfl⟩ := List.mem_map.mp hw
  exact andn_ltb (h x hx)
theorem plM_inv {nb : Nat} : ∀ (n K : Nat) (tn : Int32) (W : List Nat), wOK K W → K < 2 ^ nb → (∀ w ∈ W, w < 2 ^ nb) →
    (plM n K tn W).1 < 2 ^ nb ∧ wOK (plM n K tn W).1 (plM n K tn W).2.2 ∧ (∀ w ∈ (plM n K tn W).2.2, w < 2 ^ nb) ∧ subB K (plM n K tn W).1 ∧ (W.length ≤ n → ∀ w ∈ (plM n K tn W).2.2, 2 ≤ pc w) ∧ ∃ c, (plM n K tn W).2.1 = tn + nI c ∧ c + (plM n K tn W).2.2.length ≤ W.length := by
  intro n
  induction n with
  | zero =>
    intro K tn W hW hK hb
    refine ⟨hK, hW, hb, fun _ h => h, fun hl w hw => ?_, 0, (Int32.add_zero tn).symm, Nat.le_of_eq (Nat.zero_add _)⟩
    have : W = [] := List.eq_nil_of_length_eq_zero (by omega)
    rw [this] at hw
    exact absurd hw List.not_mem_nil
  | succ n ih =>
    intro K tn W hW hK hb
    cases hf : fsM W with
    | none =>
      rw [plM_none hf]
      exact ⟨hK, hW, hb, fun _ h => h, fun _ => fsM_all hf, 0, (Int32.add_zero tn).symm, Nat.le_of_eq (Nat.zero_add _)⟩
    | some p =>
      have hl := fsM_lt hf
      have hm := getD_mem hl
      rw [plM_some hf]
      generalize W.getD p 0 = m at hm
      have hmb := hb m hm
      have hle : (knW m (W.eraseIdx p)).length = W.length - 1 := by rw [knW_len, erN_len hl]
      generalize htn : (if m = 0 then tn + 1 else tn) = tn9
      obtain ⟨h1, h2, h3, h4, h5, c, h6, h7⟩ := ih (K ||| m) tn9 (knW m (W.eraseIdx p)) (knW_wOK (erW_wOK hW)) (Nat.or_lt_two_pow hK hmb) (knW_ltb (fun w hw => hb w (List.mem_of_mem_eraseIdx hw)))
      refine ⟨h1, h2, h3, subB_tr subB_or h4, fun hn => h5 (by omega), ?_⟩
      by_cases h0 : m = 0
      · rw [if_pos h0] at htn
        refine ⟨c + 1, ?_, by omega⟩
        rw [h6, ← htn, nI_succ, Int32.add_assoc, Int32.add_comm 1]
      · rw [if_neg h0] at htn
        exact ⟨c, by rw [h6, ← htn], by omega⟩
theorem MI_wOK {nb : Nat} {p : MQ5} (hn : nb ≤ 12) (h : MI nb p) : wOK p.1 p.2.2.2.2 := fun w hw => ⟨Nat.lt_of_lt_of_le (h.2.1 w hw).1 (pow_nb hn), (h.2.1 w hw).2.1⟩
theorem nI_zero_sub (x : Int32) : x - x = 0 := Int32.sub_self x
/-- a mix comes -/
theorem get_mk {vn : Nat → Nat} (hv : vOK vn) {nb m : Nat} (hn : nb ≤ 12) (hm : m < 2 ^ nb) {q : RS} {p : MQ5} (hq : RQ vn q p) (hi : MI nb p) :
    (getS (nI (mk vn m)) q).1 = nI (pc (getM m p).1) - nI (pc p.1) ∧ RQ vn (getS (nI (mk vn m)) q).2 (getM m p) ∧ MI nb (getM m p) ∧ subB p.1 (getM m p).1 ∧ ∀ B, CN B p → CN (B + 1) (getM m p) := by
  obtain ⟨kb, al, L, go, tn, lo⟩ := q
  obtain ⟨K, go2, tn2, lo2, W⟩ := p
  obtain ⟨e1, ha, e3, e4, e5, e6⟩ := hq
  replace e1 : kb = nI K := e1
  replace e3 : L = encW vn W := e3
  replace e4 : go = go2 := e4
  replace e5 : tn = tn2 := e5
  replace e6 : lo = lo2 := e6
  replace ha : alR vn K al := ha
  subst e1 e3 e4 e5 e6
  have hmm := Nat.lt_of_lt_of_le hm (pow_nb hn)
  have hKb : K < 2 ^ nb := hi.1
  have hK := Nat.lt_of_lt_of_le hKb (pow_nb hn)
  have hW : wOK K W := MI_wOK hn hi
  have hWb : ∀ w ∈ W, w < 2 ^ nb := fun w hw => (hi.2.1 w hw).1
  have hpc : ∀ w ∈ W, 2 ≤ pc w := fun w hw => (hi.2.1 w hw).2.2
  have hlen : W.length ≤ 24 := hi.2.2
  have hlo : leftOf al (nI (mk vn m)) = nI (mk vn (andn m K)) := leftOf_mk hv ha hmm
  have hx := andn_lt (k := K) hmm
  have hxb := andn_ltb (k := K) hm
  have hxd := andn_disj m K
  have hxp := pc_le (andn m K)
  have hbc := bcI_mk hv hx
  by_cases h2 : 2 ≤ pc (andn m K)
  · have hge : 2 ≤ bcI (leftOf al (nI (mk vn m))) := by
      rw [hlo, hbc]
      exact (nI_leI (a := 2) (by omega) (by omega)).mpr h2
    by_cases h24 : W.length < 24
    · rw [getM_w (by omega) h24, getS_w (x := nI (mk vn m)) (q := (nI K, al, encW vn W, go, tn, lo)) hge (by show ¬ 24 ≤ (encW vn W).length; rw [encW_len]; omega)]
      refine ⟨(nI_zero_sub _).symm, ⟨rfl, ha, ?_, rfl, rfl, rfl⟩, ⟨hKb, fun w hw => ?_, ?_⟩, fun _ h => h, fun B hc => ?_⟩
      · show encW vn W ++ [leftOf al (nI (mk vn m))] = encW vn (W ++ [andn m K])
        rw [hlo]
        unfold encW
        rw [List.map_append]
        rfl
      · rcases List.mem_append.mp hw with hw | hw
        · exact hi.2.1 w hw
        · rw [List.mem_singleton.mp hw]; exact ⟨hxb, hxd, h2⟩
      · show (W ++ [andn m K]).length ≤ 24
        rw [List.length_append, List.length_singleton]; omega
      · obtain ⟨G, T, O, c1, c2, c3, c4, c5⟩ := hc
        have c4 : T + O + W.length ≤ G := c4
        refine ⟨G + 1, T, O, ?_, c2, c3, ?_, by omega⟩
        · show go + 1 = _
          rw [show go = nI G from c1, nI_1]
        · show T + O + (W ++ [andn m K]).length ≤ G + 1
          rw [List.length_append, List.length_singleton]; omega
    · rw [getM_l (by omega) h24, getS_l (x := nI (mk vn m)) (q := (nI K, al, encW vn W, go, tn, lo)) hge (by show 24 ≤ (encW vn W).length; rw [encW_len]; omega)]
      refine ⟨(nI_zero_sub _).symm, ⟨rfl, ha, rfl, rfl, rfl, rfl⟩, ⟨hKb, hi.2.1, hlen⟩, fun _ h => h, fun B hc => ?_⟩
      obtain ⟨G, T, O, c1, c2, c3, c4, c5⟩ := hc
      have c4 : T + O + W.length ≤ G := c4
      refine ⟨G + 1, T, O + 1, ?_, c2, ?_, ?_, by omega⟩
      · show go + 1 = _
        rw [show go = nI G from c1, nI_1]
      · show lo + 1 = _
        rw [show lo = nI O from c3, nI_1]
      · show T + (O + 1) + W.length ≤ G + 1
        omega
  · have hlt : ¬ 2 ≤ bcI (leftOf al (nI (mk vn m))) := by
      rw [hlo, hbc]
      exact fun z => h2 ((nI_leI (a := 2) (by omega) (by omega)).mp z)
    rw [getS_p (x := nI (mk vn m)) (q := (nI K, al, encW vn W, go, tn, lo)) hlt]
    obtain ⟨al2, e2, ha2⟩ := peel_mk hv (encW vn W).length (andn m K) K al W tn 0 hx (by omega) hxd ha hW hK
    rw [← hlo] at e2
    show (peelS (encW vn W).length (leftOf al (nI (mk vn m))) (nI K, al, encW vn W, tn, 0)).2.2.2.2 = _ ∧ RQ vn ((peelS (encW vn W).length (leftOf al (nI (mk vn m))) (nI K, al, encW vn W, tn, 0)).1, (peelS (encW vn W).length (leftOf al (nI (mk vn m))) (nI K, al, encW vn W, tn, 0)).2.1, (peelS (encW vn W).length (leftOf al (nI (mk vn m))) (nI K, al, encW vn W, tn, 0)).2.2.1, go + 1, (peelS (encW vn W).length (leftOf al (nI (mk vn m))) (nI K, al, encW vn W, tn, 0)).2.2.2.1, lo) _ ∧ _
    rw [e2]
    rw [encW_len] at ha2 ⊢
    by_cases h0 : andn m K = 0
    · have hp0 : pc (andn m K) = 0 := by rw [h0]; exact pc_of0
      rw [getM_0 hp0]
      have hpl : plM W.length (K ||| andn m K) (if andn m K = 0 then tn + 1 else tn) (knW (andn m K) W) = (K, tn + 1, W) := by
        rw [h0, Nat.or_zero, knW_0, if_pos rfl]
        exact plM_none (fsM_none2 hpc)
      rw [hpl] at ha2 ⊢
      refine ⟨?_, ⟨rfl, ha2, rfl, rfl, rfl, rfl⟩, ⟨hKb, hi.2.1, hlen⟩, fun _ h => h, fun B hc => ?_⟩
      · show 0 + (nI (pc K) - nI (pc K)) = nI (pc K) - nI (pc K)
        exact Int32.zero_add _
      · obtain ⟨G, T, O, c1, c2, c3, c4, c5⟩ := hc
        have c4 : T + O + W.length ≤ G := c4
        refine ⟨G + 1, T + 1, O, ?_, ?_, c3, ?_, by omega⟩
        · show go + 1 = _
          rw [show go = nI G from c1, nI_1]
        · show tn + 1 = _
          rw [show tn = nI T from c2, nI_1]
        · show T + 1 + O + W.length ≤ G + 1
          omega
    · have hp1 : pc (andn m K) = 1 := by
        rcases (show pc (andn m K) = 0 ∨ pc (andn m K) = 1 by omega) with h | h
        · exact absurd (pc_0 hx h) h0
        · exact h
      rw [getM_1 hp1, knW_len, if_neg h0]
      rw [if_neg h0] at ha2
      obtain ⟨i1, i2, i3, i4, i5, c, i6, i7⟩ := plM_inv (nb := nb) W.length (K ||| andn m K) tn (knW (andn m K) W) (knW_wOK hW) (Nat.or_lt_two_pow hKb hxb) (knW_ltb hWb)
      rw [knW_len] at i7
      refine ⟨?_, ⟨rfl, ha2, rfl, rfl, rfl, rfl⟩, ⟨i1, fun w hw => ⟨i3 w hw, (i2 w hw).2, i5 (by rw [knW_len]; exact Nat.le_refl _) w hw⟩, ?_⟩, subB_tr subB_or i4, fun B hc => ?_⟩
      · exact Int32.zero_add _
      · show (plM W.length (K ||| andn m K) tn (knW (andn m K) W)).2.2.length ≤ 24
        omega
      · obtain ⟨G, T, O, c1, c2, c3, c4, c5⟩ := hc
        have c4 : T + O + W.length ≤ G := c4
        refine ⟨G + 1, T + c, O, ?_, ?_, c3, ?_, by omega⟩
        · show go + 1 = _
          rw [show go = nI G from c1, nI_1]
        · show (plM W.length (K ||| andn m K) tn (knW (andn m K) W)).2.1 = _
          rw [i6, show tn = nI T from c2, nI_add]
        · show T + c + O + (plM W.length (K ||| andn m K) tn (knW (andn m K) W)).2.2.length ≤ G + 1
          omega
