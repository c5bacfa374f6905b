/-! the rank; what a mix and an elimination tell -/
def rkN (p : MQ5) : Nat := pc p.1 + (redW p.2.2.2.2).length
theorem getM_rk {m : Nat} {p : MQ5} (hK : p.1 < 4096) (hW : wOK p.1 p.2.2.2.2) (hm : m < 4096) : rkN (getM m p) = rkN p ∨ rkN (getM m p) = rkN p + 1 := by
  obtain ⟨K, go, tn, lo, W⟩ := p
  have hK : K < 4096 := hK
  have hW : wOK K W := hW
  have hx := andn_lt (k := K) hm
  have hd := andn_disj m K
  unfold rkN
  by_cases h2 : pc (andn m K) ≤ 1
  · rcases (show pc (andn m K) = 0 ∨ pc (andn m K) = 1 by omega) with e | e
    · rw [getM_0 e]; exact Or.inl rfl
    · rw [getM_1 e]
      show pc (plM _ _ _ _).1 + (redW (plM _ _ _ _).2.2).length = pc K + (redW W).length ∨ pc (plM _ _ _ _).1 + (redW (plM _ _ _ _).2.2).length = pc K + (redW W).length + 1
      rw [pl_rk _ _ _ _ (knW_wOK hW) (or_lt hK hx)]
      obtain ⟨b, hb, eb⟩ := pc_1 hx e
      rw [eb] at hd ⊢
      rw [Nat.and_comm] at hd
      rw [learn_len hb (and_pow.mp hd) hW]
      rcases dim_push W (2 ^ b) with h | h
      · left; rw [h]
      · right; rw [h]; omega
  · by_cases h24 : W.length < 24
    · rw [getM_w h2 h24]
      show pc K + (redW (W ++ [andn m K])).length = pc K + (redW W).length ∨ pc K + (redW (W ++ [andn m K])).length = pc K + (redW W).length + 1
      rcases dim_push W (andn m K) with h | h
      · left; rw [h]
      · right; rw [h]; omega
    · rw [getM_l h2 h24]; exact Or.inl rfl
/-! what holds of all that is known and waits -/
theorem pI_kn {P : Nat → Prop} (hc : xcl P) {K b : Nat} {W : List Nat} (h : pI P K W) (hP : P (2 ^ b)) : pI P (K ||| 2 ^ b) (knW (2 ^ b) W) := by
  refine ⟨fun c h12 hcb => ?_, fun w hw => ?_⟩
  · rw [Nat.testBit_or, tb_pow] at hcb
    by_cases e : b = c
    · rw [← e]; exact hP
    · rw [decide_eq_false e, Bool.or_false] at hcb; exact h.1 c h12 hcb
  · obtain ⟨x, hx, rfl⟩ := List.mem_map.mp hw
    rw [andn_pow]
    split
    · exact hc.2 _ _ (h.2 x hx) hP
    · exact h.2 x hx
theorem pI_er {P : Nat → Prop} {K p : Nat} {W : List Nat} (h : pI P K W) : pI P K (W.eraseIdx p) := ⟨h.1, fun w hw => h.2 w (List.mem_of_mem_eraseIdx hw)⟩
theorem pI_pl {P : Nat → Prop} (hc : xcl P) : ∀ (n K : Nat) (tn : Int32) (W : List Nat), (∀ w ∈ W, w < 4096) → pI P K W → pI P (plM n K tn W).1 (plM n K tn W).2.2 := by
  intro n
  induction n with
  | zero => intro K tn W _ h; exact h
  | succ n ih =>
    intro K tn W hW h
    cases hf : fsM W with
    | none => rw [plM_none hf]; exact h
    | some p =>
      have hl := fsM_lt hf
      have hp := fsM_pc hf
      have hm := getD_mem hl
      rw [plM_some hf]
      generalize W.getD p 0 = m at hm hp
      have hm4 := hW m hm
      refine ih _ _ _ (fun w hw => ?_) ?_
      · obtain ⟨x, hx, rfl⟩ := List.mem_map.mp hw
        exact andn_lt (hW x (List.mem_of_mem_eraseIdx hx))
      · rcases (show pc m = 0 ∨ pc m = 1 by omega) with e | e
        · rw [pc_0 hm4 e, Nat.or_zero, knW_0]; exact pI_er h
        · obtain ⟨b, hb, rfl⟩ := pc_1 hm4 e
          exact pI_kn hc (pI_er h) (h.2 _ hm)
theorem pI_get {P : Nat → Prop} (hc : xcl P) {m : Nat} {p : MQ5} (hW : ∀ w ∈ p.2.2.2.2, w < 4096) (hm : m < 4096) (h : pI P p.1 p.2.2.2.2) (hP : P m) : pI P (getM m p).1 (getM m p).2.2.2.2 := by
  obtain ⟨K, go, tn, lo, W⟩ := p
  have hW : ∀ w ∈ W, w < 4096 := hW
  have h : pI P K W := h
  have hx := andn_lt (k := K) hm
  have hPx : P (andn m K) := by
    have h1 := hc.2 _ _ hP (pI_sub hc h (Nat.lt_of_le_of_lt Nat.and_le_left hm) (and_subB m K))
    exact h1
  by_cases h2 : pc (andn m K) ≤ 1
  · rcases (show pc (andn m K) = 0 ∨ pc (andn m K) = 1 by omega) with e | e
    · rw [getM_0 e]; exact h
    · rw [getM_1 e]
      show pI P (plM _ _ _ _).1 (plM _ _ _ _).2.2
      obtain ⟨b, hb, eb⟩ := pc_1 hx e
      rw [eb] at hPx ⊢
      refine pI_pl hc _ _ _ _ (fun w hw => ?_) (pI_kn hc h hPx)
      obtain ⟨x, hx, rfl⟩ := List.mem_map.mp hw
      exact andn_lt (hW x hx)
  · by_cases h24 : W.length < 24
    · rw [getM_w h2 h24]
      refine ⟨h.1, fun w hw => ?_⟩
      rcases mem_push hw with hw | e
      · exact h.2 w hw
      · rw [e]; exact hPx
    · rw [getM_l h2 h24]; exact h
theorem pI_el {P : Nat → Prop} (hc : xcl P) {fo : Nat} (hfo : ∀ b, b < 12 → fo.testBit b = true → P (2 ^ b)) : ∀ (n i : Nat) (q : Nat × Int32 × List Nat), i + n ≤ 12 → (∀ w ∈ q.2.2, w < 4096) → pI P q.1 q.2.2 → pI P (itr (elS fo) n i q).1 (itr (elS fo) n i q).2.2 := by
  intro n
  induction n with
  | zero => intro i q _ _ h; exact h
  | succ n ih =>
    intro i q hi hW h
    rw [itr_s]
    have hk4 : ∀ w ∈ knW (2 ^ i) q.2.2, w < 4096 := fun w hw => by
      obtain ⟨x, hx, rfl⟩ := List.mem_map.mp hw
      exact andn_lt (hW x hx)
    have hs : pI P (elS fo i q).1 (elS fo i q).2.2 ∧ ∀ w ∈ (elS fo i q).2.2, w < 4096 := by
      unfold elS
      split
      · next ht =>
        split
        · exact ⟨h, hW⟩
        · refine ⟨pI_pl hc _ _ _ _ hk4 (pI_kn hc h (hfo i (by omega) ht)), ?_⟩
          have h9 := pI_pl (P := fun x => x < 4096) ⟨by decide, fun a b ha hb => xor_lt ha hb⟩ (knW (2 ^ i) q.2.2).length (q.1 ||| 2 ^ i) q.2.1 (knW (2 ^ i) q.2.2) hk4 ⟨fun b hb _ => pow12 hb, hk4⟩
          exact h9.2
      · exact ⟨h, hW⟩
    exact ih (i + 1) _ (by omega) hs.2 hs.1
/-! and what was told is told -/
theorem sp_kn {K b : Nat} {W : List Nat} (hb : b < 12) {x : Nat} (h : spn K W x) : spn (K ||| 2 ^ b) (knW (2 ^ b) W) x := by
  have hbb : spn (K ||| 2 ^ b) (knW (2 ^ b) W) (2 ^ b) := (spn_pI _ _).1 b hb (by rw [Nat.testBit_or, tb_pow, decide_eq_true rfl, Bool.or_true])
  refine spn_le ⟨fun c h12 hc => (spn_pI _ _).1 c h12 (by rw [Nat.testBit_or, hc]; rfl), fun w hw => ?_⟩ h
  have h1 : spn (K ||| 2 ^ b) (knW (2 ^ b) W) (andn w (2 ^ b)) := (spn_pI _ _).2 _ (List.mem_map.mpr ⟨w, hw, rfl⟩)
  rw [andn_pow] at h1
  split at h1
  · have h2 := (spn_cl _ _).2 _ _ h1 hbb
    rw [xor_xor] at h2
    exact h2
  · exact h1
theorem sp_pl {x : Nat} : ∀ (n K : Nat) (tn : Int32) (W : List Nat), (∀ w ∈ W, w < 4096) → spn K W x → spn (plM n K tn W).1 (plM n K tn W).2.2 x := by
  intro n
  induction n with
  | zero => intro K tn W _ h; exact h
  | succ n ih =>
    intro K tn W hW h
    cases hf : fsM W with
    | none => rw [plM_none hf]; exact h
    | some p =>
      have hl := fsM_lt hf
      have hp := fsM_pc hf
      have hm4 := hW _ (getD_mem hl)
      rw [plM_some hf]
      have hme : ∀ w ∈ W, w ∈ W.eraseIdx p ∨ w = W.getD p 0 := fun w hw => mem_erase hl hw
      generalize W.getD p 0 = m at hm4 hp hme
      refine ih _ _ _ (fun w hw => ?_) ?_
      · obtain ⟨x, hx, rfl⟩ := List.mem_map.mp hw
        exact andn_lt (hW x (List.mem_of_mem_eraseIdx hx))
      · rcases (show pc m = 0 ∨ pc m = 1 by omega) with e | e
        · have h0 := pc_0 hm4 e
          subst h0
          rw [Nat.or_zero, knW_0]
          refine spn_le ⟨(spn_pI _ _).1, fun w hw => ?_⟩ h
          rcases hme w hw with q | q
          · exact (spn_pI _ _).2 w q
          · rw [q]; exact (spn_cl _ _).1
        · obtain ⟨b, hb, rfl⟩ := pc_1 hm4 e
          refine spn_le ⟨fun c h12 hc => (spn_pI _ _).1 c h12 (by rw [Nat.testBit_or, hc]; rfl), fun w hw => ?_⟩ h
          rcases hme w hw with q | q
          · exact sp_kn hb ((spn_pI K _).2 w q)
          · rw [q]
            exact (spn_pI _ _).1 b hb (by rw [Nat.testBit_or, tb_pow, decide_eq_true rfl, Bool.or_true])
/-- a mix that is not lost is told from now on -/
theorem sp_get {m : Nat} {p : MQ5} (hW : ∀ w ∈ p.2.2.2.2, w < 4096) (hm : m < 4096) (h24 : p.2.2.2.2.length < 24) : (∀ x, spn p.1 p.2.2.2.2 x → spn (getM m p).1 (getM m p).2.2.2.2 x) ∧ spn (getM m p).1 (getM m p).2.2.2.2 m := by
  obtain ⟨K, go, tn, lo, W⟩ := p
  have hW : ∀ w ∈ W, w < 4096 := hW
  have h24 : W.length < 24 := h24
  have hx := andn_lt (k := K) hm
  have key : ∀ (K2 : Nat) (W2 : List Nat), (∀ x, spn K W x → spn K2 W2 x) → spn K2 W2 (andn m K) → spn K2 W2 m := by
    intro K2 W2 h1 h2
    have h3 := (spn_cl K2 W2).2 _ _ h2 (h1 _ (pI_sub (spn_cl K W) (spn_pI K W) (Nat.lt_of_le_of_lt Nat.and_le_left hm) (and_subB m K)))
    rw [andn_back] at h3
    exact h3
  by_cases h2 : pc (andn m K) ≤ 1
  · rcases (show pc (andn m K) = 0 ∨ pc (andn m K) = 1 by omega) with e | e
    · rw [getM_0 e]
      refine ⟨fun _ h => h, key K W (fun _ h => h) ?_⟩
      rw [pc_0 hx e]; exact (spn_cl K W).1
    · rw [getM_1 e]
      obtain ⟨b, hb, eb⟩ := pc_1 hx e
      have hk4 : ∀ w ∈ knW (2 ^ b) W, w < 4096 := fun w hw => by
        obtain ⟨x, hx, rfl⟩ := List.mem_map.mp hw
        exact andn_lt (hW x hx)
      have h3 : ∀ x, spn K W x → spn (plM (knW (andn m K) W).length (K ||| andn m K) tn (knW (andn m K) W)).1 (plM (knW (andn m K) W).length (K ||| andn m K) tn (knW (andn m K) W)).2.2 x := fun x h => by
        rw [eb]
        exact sp_pl _ _ _ _ hk4 (sp_kn hb h)
      refine ⟨h3, key _ _ h3 ?_⟩
      rw [eb]
      exact sp_pl _ _ _ _ hk4 ((spn_pI _ _).1 b hb (by rw [Nat.testBit_or, tb_pow, decide_eq_true rfl, Bool.or_true]))
  · rw [getM_w h2 h24]
    have h3 : ∀ x, spn K W x → spn K (W ++ [andn m K]) x := fun x h => spn_le ⟨(spn_pI _ _).1, fun w hw => (spn_pI _ _).2 w (List.mem_append_left _ hw)⟩ h
    exact ⟨h3, key K _ h3 ((spn_pI _ _).2 _ (List.mem_append_right _ (List.mem_singleton.mpr rfl)))⟩
/-- an elimination keeps what is told, and the rank -/
theorem sp_el {nb fo K0 : Nat} {W0 : List Nat} (hn : nb ≤ 12) (hfn : ∀ b, b < 12 → fo.testBit b = true → b < nb) (hfo : ∀ b, b < 12 → fo.testBit b = true → spn 0 W0 (2 ^ b)) : ∀ (n i : Nat) (q : Nat × Int32 × List Nat), i + n ≤ 12 → q3OK nb q → (∀ x, spn K0 W0 x → spn q.1 q.2.2 x) →
    (∀ x, spn K0 W0 x → spn (itr (elS fo) n i q).1 (itr (elS fo) n i q).2.2 x) ∧ pc (itr (elS fo) n i q).1 + (redW (itr (elS fo) n i q).2.2).length = pc q.1 + (redW q.2.2).length := by
  intro n
  induction n with
  | zero => intro i q _ _ h; exact ⟨h, rfl⟩
  | succ n ih =>
    intro i q hi hq h
    rw [itr_s]
    have hq2 := (elS_inv2 (fo := fo) (b := i) (hfn i (by omega)) hn hq).1
    have hW4 : ∀ w ∈ q.2.2, w < 4096 := fun w hw => Nat.lt_of_lt_of_le (hq.2 w hw).1 (pow_nb hn)
    have hwok : wOK q.1 q.2.2 := fun w hw => ⟨hW4 w hw, (hq.2 w hw).2.1⟩
    have hK4 : q.1 < 4096 := Nat.lt_of_lt_of_le hq.1 (pow_nb hn)
    have hs : (∀ x, spn K0 W0 x → spn (elS fo i q).1 (elS fo i q).2.2 x) ∧ pc (elS fo i q).1 + (redW (elS fo i q).2.2).length = pc q.1 + (redW q.2.2).length := by
      unfold elS
      split
      · next ht =>
        split
        · exact ⟨h, rfl⟩
        · next hk =>
          have hkf : q.1.testBit i = false := by
            cases c : q.1.testBit i
            · rfl
            · exact absurd c hk
          have hk4 : ∀ w ∈ knW (2 ^ i) q.2.2, w < 4096 := fun w hw => by
            obtain ⟨x, hx, rfl⟩ := List.mem_map.mp hw
            exact andn_lt (hW4 x hx)
          refine ⟨fun x hx => sp_pl _ _ _ _ hk4 (sp_kn (by omega) (h x hx)), ?_⟩
          rw [pl_rk _ _ _ _ (knW_wOK hwok) (or_lt hK4 (pow12 (by omega))), learn_len (by omega) hkf hwok]
          have h1 := spn_andn (fun w hw => (hwok w hw).2) (h _ (sp0 (hfo i (by omega) ht)))
          have e : andn (2 ^ i) q.1 = 2 ^ i := by
            unfold andn
            rw [show 2 ^ i &&& q.1 = 0 by rw [Nat.and_comm]; exact and_pow.mpr hkf, Nat.xor_zero]
          rw [e] at h1
          rw [dim_push0 (spn_ker hW4 h1)]
      · exact ⟨h, rfl⟩
    obtain ⟨g1, g2⟩ := ih (i + 1) _ (by omega) hq2 hs.1
    exact ⟨g1, g2.trans hs.2⟩
theorem aln_spn {W : List Nat} (hW : ∀ w ∈ W, w < 4096) {b : Nat} (hb : b < 12) : (alnM (redW W)).testBit b = true ↔ spn 0 W (2 ^ b) := by
  have h0 : vOK (fun _ => 0) := fun _ => (by decide : (0 : Nat) < 65536)
  rw [← ker_pow h0 hW hb]
  exact ⟨ker_spn, spn_ker hW⟩
/-- one of the class for one of the masks -/
def qOf (p : MQ5) : RS := (nI p.1, (fun b => if p.1.testBit b = true then nI (mk (fun _ => 0) (2 ^ b)) else 0), encW (fun _ => 0) p.2.2.2.2, p.2.1, p.2.2.1, p.2.2.2.1)
theorem qOf_ok (p : MQ5) : RQ (fun _ => 0) (qOf p) p := ⟨rfl, fun _ _ => rfl, rfl, rfl, rfl, rfl⟩
theorem v0OK : vOK (fun _ => 0) := fun _ => (by decide : (0 : Nat) < 65536)
theorem MI_get {nb m : Nat} (hn : nb ≤ 12) (hm : m < 2 ^ nb) {p : MQ5} (hi : MI nb p) : MI nb (getM m p) ∧ subB p.1 (getM m p).1 := by
  obtain ⟨_, _, g3, g4, _⟩ := get_mk v0OK hn hm (qOf_ok p) hi
  exact ⟨g3, g4⟩
theorem MI_elm {nb : Nat} (hn : nb ≤ 12) {p : MQ5} (hi : MI nb p) : MI nb (elmQ nb p) ∧ subB p.1 (elmQ nb p).1 := by
  obtain ⟨_, _, g3, g4, _⟩ := elim_mk v0OK hn (qOf_ok p) hi
  exact ⟨g3, g4⟩
theorem MI_K {nb : Nat} (hn : nb ≤ 12) {p : MQ5} (hi : MI nb p) : p.1 < 4096 := Nat.lt_of_lt_of_le hi.1 (pow_nb hn)
theorem MI_W {nb : Nat} (hn : nb ≤ 12) {p : MQ5} (hi : MI nb p) : ∀ w ∈ p.2.2.2.2, w < 4096 := fun w hw => (MI_wOK hn hi w hw).1
theorem elm_all {nb : Nat} (hn : nb ≤ 12) {p : MQ5} (hi : MI nb p) :
    (∀ x, spn p.1 p.2.2.2.2 x → spn (elmQ nb p).1 (elmQ nb p).2.2.2.2 x) ∧ rkN (elmQ nb p) = rkN p ∧ (∀ x, spn (elmQ nb p).1 (elmQ nb p).2.2.2.2 x → spn p.1 p.2.2.2.2 x) := by
  have hW4 := MI_W hn hi
  have hfn : ∀ b, b < 12 → (alnM (redW p.2.2.2.2)).testBit b = true → b < nb := fun b hb h => fo_lt hn (fun w hw => (hi.2.1 w hw).1) h hb
  have hfo : ∀ b, b < 12 → (alnM (redW p.2.2.2.2)).testBit b = true → spn 0 p.2.2.2.2 (2 ^ b) := fun b hb h => (aln_spn hW4 hb).mp h
  obtain ⟨h1, h2⟩ := sp_el (K0 := p.1) hn hfn hfo nb 0 (p.1, p.2.2.1, p.2.2.2.2) (by omega) ⟨hi.1, hi.2.1⟩ (fun _ h => h)
  refine ⟨h1, h2, fun x hx => ?_⟩
  have h3 := pI_el (spn_cl p.1 p.2.2.2.2) (fo := alnM (redW p.2.2.2.2)) (fun b hb h => sp0 (hfo b hb h)) nb 0 (p.1, p.2.2.1, p.2.2.2.2) (by omega) hW4 (spn_pI p.1 p.2.2.2.2)
  exact spn_le h3 hx
/-- behind an elimination no block is told alone -/
theorem elm_none {nb : Nat} (hn : nb ≤ 12) {p : MQ5} (hi : MI nb p) : alnM (redW (elmQ nb p).2.2.2.2) = 0 := by
  obtain ⟨hi2, hs⟩ := MI_elm hn hi
  obtain ⟨_, _, h3⟩ := elm_all hn hi
  obtain ⟨e1, e2⟩ := elim_all v0OK hn hi (qOf_ok p)
  have hW4 := MI_W hn hi
  have hW42 := MI_W hn hi2
  have hd := fo_disj (MI_wOK hn hi2)
  have hlt : alnM (redW (elmQ nb p).2.2.2.2) < 4096 := alnM_lt (fun k hk => hW42 _ (getD_mem hk))
  apply Nat.eq_of_testBit_eq
  intro b
  rw [Nat.zero_testBit]
  by_cases hb : b < 12
  · cases q : (alnM (redW (elmQ nb p).2.2.2.2)).testBit b
    · rfl
    · exfalso
      have hKf : (elmQ nb p).1.testBit b = false := by
        have h1 : (alnM (redW (elmQ nb p).2.2.2.2) &&& (elmQ nb p).1).testBit b = false := by rw [hd]; exact Nat.zero_testBit b
        rw [Nat.testBit_and, q, Bool.true_and] at h1
        exact h1
      have hKf0 : p.1.testBit b = false := by
        cases c : p.1.testBit b
        · rfl
        · rw [hs b c] at hKf; exact absurd hKf (by decide)
      have h4 := spn_andn (fun w hw => (MI_wOK hn hi w hw).2) (h3 _ (sp0 ((aln_spn hW42 hb).mp q)))
      have e : andn (2 ^ b) p.1 = 2 ^ b := by
        unfold andn
        rw [show 2 ^ b &&& p.1 = 0 by rw [Nat.and_comm]; exact and_pow.mpr hKf0, Nat.xor_zero]
      rw [e] at h4
      have h5 := (aln_spn hW4 hb).mpr h4
      rw [e1, Nat.testBit_or, h5, Bool.or_true] at hKf
      exact absurd hKf (by decide)
  · exact tb_hi hlt (by omega)
/-- a receiver that is told all, and eliminates, is done -/
theorem elm_done {nb : Nat} (hn : nb ≤ 12) {p : MQ5} (hi : MI nb p) (h : ∀ b, b < nb → spn p.1 p.2.2.2.2 (2 ^ b)) : (elmQ nb p).1 = 2 ^ nb - 1 := by
  obtain ⟨hi2, hs⟩ := MI_elm hn hi
  obtain ⟨h1, _, _⟩ := elm_all hn hi
  have h0 := elm_none hn hi
  have hW42 := MI_W hn hi2
  apply Nat.eq_of_testBit_eq
  intro b
  rw [Nat.testBit_two_pow_sub_one]
  by_cases hb : b < nb
  · rw [decide_eq_true hb]
    cases q : (elmQ nb p).1.testBit b
    · exfalso
      have h4 := spn_andn (fun w hw => (MI_wOK hn hi2 w hw).2) (h1 _ (h b hb))
      have e : andn (2 ^ b) (elmQ nb p).1 = 2 ^ b := by
        unfold andn
        rw [show 2 ^ b &&& (elmQ nb p).1 = 0 by rw [Nat.and_comm]; exact and_pow.mpr q, Nat.xor_zero]
      rw [e] at h4
      have h5 := (aln_spn hW42 (by omega)).mpr h4
      rw [h0, Nat.zero_testBit] at h5
      exact absurd h5 (by decide)
    · rfl
  · rw [decide_eq_false hb]
    exact Nat.testBit_lt_two_pow (Nat.lt_of_lt_of_le hi2.1 (Nat.pow_le_pow_right (n := 2) (by decide) (by omega)))
/-! bounds of the rank -/
theorem pc_nb {nb x : Nat} (hn : nb ≤ 12) (h : x < 2 ^ nb) : pc x ≤ nb := by
  unfold pc
  rw [show 12 = nb + (12 - nb) by omega, pcN_top h]
  exact pcN_le x nb
theorem rk_le {nb : Nat} (hn : nb ≤ 12) {p : MQ5} (hi : MI nb p) : rkN p ≤ nb := by
  have hW4 := MI_W hn hi
  have hR := rw_iv hW4
  have h4 : ∀ y ∈ redW p.2.2.2.2, y < 2 ^ nb ∧ y &&& p.1 = 0 := redW_cl (P := fun y => y < 2 ^ nb ∧ y &&& p.1 = 0) (fun a b ha hb => ⟨Nat.xor_lt_two_pow ha.1 hb.1, xor_and0 ha.2 hb.2⟩) _ [] (fun y hy => absurd hy List.not_mem_nil) (fun w hw => ⟨(hi.2.1 w hw).1, (hi.2.1 w hw).2.1⟩)
  have hb : ∀ b, (pivs (redW p.2.2.2.2)).testBit b = true → b < nb ∧ p.1.testBit b = false := by
    intro b h
    obtain ⟨y, hy, hyb⟩ := (pivs_t _ b).mp h
    obtain ⟨hy1, hy2⟩ := rIv_mem hR hy
    obtain ⟨a, _, ea, ta, _⟩ := low_sp hy1 hy2
    rw [ea, tb_pow] at hyb
    have hab := of_decide_eq_true hyb
    subst hab
    obtain ⟨h5, h6⟩ := h4 y hy
    constructor
    · refine Nat.lt_of_not_le fun hle => ?_
      rw [Nat.testBit_lt_two_pow (Nat.lt_of_lt_of_le h5 (Nat.pow_le_pow_right (n := 2) (by decide) hle))] at ta
      exact absurd ta (by decide)
    · have h7 : (y &&& p.1).testBit a = false := by rw [h6]; exact Nat.zero_testBit a
      rw [Nat.testBit_and, ta, Bool.true_and] at h7
      exact h7
  have hpl : pivs (redW p.2.2.2.2) < 2 ^ nb := Nat.lt_pow_two_of_testBit _ fun i hi => by
    cases q : (pivs (redW p.2.2.2.2)).testBit i
    · rfl
    · have := (hb i q).1; omega
  have hd : p.1 &&& pivs (redW p.2.2.2.2) = 0 := by
    apply Nat.eq_of_testBit_eq
    intro i
    rw [Nat.testBit_and, Nat.zero_testBit]
    cases q : (pivs (redW p.2.2.2.2)).testBit i
    · rw [Bool.and_false]
    · rw [(hb i q).2]; rfl
  unfold rkN
  rw [← pivs_pc _ hR, ← pc_disj hd]
  exact pc_nb hn (Nat.or_lt_two_pow hi.1 hpl)
theorem rk_ge (p : MQ5) : pc p.1 ≤ rkN p ∧ rkN p ≤ pc p.1 + p.2.2.2.2.length := by
  have := dim_le p.2.2.2.2
  unfold rkN
  omega
