/-! how many mixes it takes; the next that helps; what the law asks of them -/
theorem nd_done {nb fr : Nat} {el : Bool} {n tk : Nat} {q : MQ5} (hk : tk + n = 100) (h : isDM nb q = true) : ndM nb fr el n tk q = nI tk := by
  cases n with
  | zero =>
    show (if isDM nb q = true then nI 100 else -1) = nI tk
    rw [if_pos h, show tk = 100 by omega]
  | succ n =>
    show (if isDM nb q = true then nI tk else _) = nI tk
    rw [if_pos h]
theorem nd_next {nb fr : Nat} {el : Bool} {n tk : Nat} {q : MQ5} (h : ¬ isDM nb q = true) : ndM nb fr el (n + 1) tk q = ndM nb fr el n (tk + 1) (stpM nb fr el tk q) := by
  show (if isDM nb q = true then nI tk else ndM nb fr el n (tk + 1) (stpM nb fr el tk q)) = _
  rw [if_neg h]
theorem nd_rng {nb fr : Nat} {el : Bool} : ∀ (n tk : Nat) (q : MQ5), tk + n = 100 → ndM nb fr el n tk q = -1 ∨ ∃ v, tk ≤ v ∧ v ≤ 100 ∧ ndM nb fr el n tk q = nI v := by
  intro n
  induction n with
  | zero =>
    intro tk q hk
    by_cases h : isDM nb q = true
    · exact Or.inr ⟨tk, Nat.le_refl _, by omega, nd_done hk h⟩
    · left
      show (if isDM nb q = true then nI 100 else -1) = -1
      rw [if_neg h]
  | succ n ih =>
    intro tk q hk
    by_cases h : isDM nb q = true
    · exact Or.inr ⟨tk, Nat.le_refl _, by omega, nd_done hk h⟩
    · rw [nd_next h]
      rcases ih (tk + 1) (stpM nb fr el tk q) (by omega) with e | ⟨v, h1, h2, e⟩
      · exact Or.inl e
      · exact Or.inr ⟨v, by omega, h2, e⟩
theorem m1_ne {v : Nat} (h : v < 2 ^ 31) : (-1 : Int32) ≠ nI v := fun e => nI_ne_m1 h e.symm
/-- none is needed just by one that is done -/
theorem nd_zero {nb fr : Nat} {el : Bool} {q : MQ5} : ndM nb fr el 100 0 q = 0 ↔ isDM nb q = true := by
  constructor
  · intro h
    refine Classical.byContradiction fun hd => ?_
    rw [nd_next hd] at h
    rcases nd_rng 99 (0 + 1) (stpM nb fr el 0 q) (by omega) with e | ⟨v, h1, h2, e⟩
    · rw [e] at h; exact absurd h (by decide)
    · rw [e] at h
      have := (nI_e0 (a := v) (by omega)).mp h
      omega
  · intro h; exact nd_done rfl h
/-- known and waiting tell what is needed -/
theorem pl_kw : ∀ (n K : Nat) (tn tn2 : Int32) (W : List Nat), (plM n K tn W).1 = (plM n K tn2 W).1 ∧ (plM n K tn W).2.2 = (plM n K tn2 W).2.2 := by
  intro n
  induction n with
  | zero => intro K tn tn2 W; exact ⟨rfl, rfl⟩
  | succ n ih =>
    intro K tn tn2 W
    cases hf : fsM W with
    | none => rw [plM_none hf, plM_none hf]; exact ⟨rfl, rfl⟩
    | some p => rw [plM_some hf, plM_some hf]; exact ih _ _ _ _
theorem get_kw (m : Nat) {p q : MQ5} (h1 : p.1 = q.1) (h2 : p.2.2.2.2 = q.2.2.2.2) : (getM m p).1 = (getM m q).1 ∧ (getM m p).2.2.2.2 = (getM m q).2.2.2.2 := by
  obtain ⟨K, go, tn, lo, W⟩ := p
  obtain ⟨K2, go2, tn2, lo2, W2⟩ := q
  have h1 : K = K2 := h1
  have h2 : W = W2 := h2
  subst h1
  subst h2
  by_cases h2 : pc (andn m K) ≤ 1
  · rcases (show pc (andn m K) = 0 ∨ pc (andn m K) = 1 by omega) with e | e
    · rw [getM_0 e, getM_0 e]; exact ⟨rfl, rfl⟩
    · rw [getM_1 e, getM_1 e]
      exact pl_kw _ _ _ _ _
  · by_cases h24 : W.length < 24
    · rw [getM_w h2 h24, getM_w h2 h24]; exact ⟨rfl, rfl⟩
    · rw [getM_l h2 h24, getM_l h2 h24]; exact ⟨rfl, rfl⟩
theorem stp_f (nb fr tk : Nat) (q : MQ5) : stpM nb fr false tk q = getM (mskM nb (fr + tk)) q := by
  unfold stpM
  rw [if_neg (by decide)]
theorem stp_t (nb fr tk : Nat) (q : MQ5) : stpM nb fr true tk q = elmQ nb (getM (mskM nb (fr + tk)) q) := by
  unfold stpM
  rw [if_pos rfl]
theorem nd_kw {nb fr : Nat} : ∀ (n tk : Nat) (p q : MQ5), p.1 = q.1 → p.2.2.2.2 = q.2.2.2.2 → ndM nb fr false n tk p = ndM nb fr false n tk q := by
  intro n
  induction n with
  | zero =>
    intro tk p q h1 _
    show (if isDM nb p = true then nI 100 else -1) = (if isDM nb q = true then nI 100 else -1)
    unfold isDM
    rw [h1]
  | succ n ih =>
    intro tk p q h1 h2
    obtain ⟨g1, g2⟩ := get_kw (mskM nb (fr + tk)) h1 h2
    show (if isDM nb p = true then nI tk else ndM nb fr false n (tk + 1) (stpM nb fr false tk p)) = (if isDM nb q = true then nI tk else ndM nb fr false n (tk + 1) (stpM nb fr false tk q))
    rw [ih (tk + 1) (stpM nb fr false tk p) (stpM nb fr false tk q) (by rw [stp_f, stp_f]; exact g1) (by rw [stp_f, stp_f]; exact g2)]
    unfold isDM
    rw [h1]
theorem pl_len : ∀ (n K : Nat) (tn : Int32) (W : List Nat), (plM n K tn W).2.2.length ≤ W.length := by
  intro n
  induction n with
  | zero => intro K tn W; exact Nat.le_refl _
  | succ n ih =>
    intro K tn W
    cases hf : fsM W with
    | none => rw [plM_none hf]; exact Nat.le_refl _
    | some p =>
      rw [plM_some hf]
      have h1 := ih (K ||| W.getD p 0) (if W.getD p 0 = 0 then tn + 1 else tn) (knW (W.getD p 0) (W.eraseIdx p))
      rw [knW_len, erN_len (fsM_lt hf)] at h1
      omega
theorem get_len (m : Nat) (p : MQ5) : (getM m p).2.2.2.2.length ≤ p.2.2.2.2.length + 1 := by
  obtain ⟨K, go, tn, lo, W⟩ := p
  show _ ≤ W.length + 1
  by_cases h2 : pc (andn m K) ≤ 1
  · rcases (show pc (andn m K) = 0 ∨ pc (andn m K) = 1 by omega) with e | e
    · rw [getM_0 e]; exact Nat.le_succ _
    · rw [getM_1 e]
      show (plM _ _ _ _).2.2.length ≤ _
      have h1 := pl_len (knW (andn m K) W).length (K ||| andn m K) tn (knW (andn m K) W)
      rw [knW_len] at h1 ⊢
      omega
  · by_cases h24 : W.length < 24
    · rw [getM_w h2 h24]
      show (W ++ [andn m K]).length ≤ _
      rw [List.length_append, List.length_singleton]; exact Nat.le_refl _
    · rw [getM_l h2 h24]; exact Nat.le_succ _
theorem elm_len {nb : Nat} (hn : nb ≤ 12) {p : MQ5} (hi : MI nb p) : (elmQ nb p).2.2.2.2.length ≤ p.2.2.2.2.length := by
  have hfn : ∀ b, b < 12 → (alnM (redW p.2.2.2.2)).testBit b = true → b < nb := fun b hb h => fo_lt hn (fun w hw => (hi.2.1 w hw).1) h hb
  obtain ⟨_, _, _, c, _, k5⟩ := elF_inv (fo := alnM (redW p.2.2.2.2)) hn nb 0 (p.1, p.2.2.1, p.2.2.2.2) (fun b _ h2 _ => by omega) ⟨hi.1, hi.2.1⟩
  have k5 : c + (elmQ nb p).2.2.2.2.length ≤ p.2.2.2.2.length := k5
  omega
/-- who eliminates needs no more, as long as none is lost -/
theorem nd_less {nb fr : Nat} (h0 : 0 < nb) (hn : nb ≤ 12) {a : Nat} (ha : a ≤ 20) : ∀ (n tk : Nat) (p r : MQ5), tk + n = 100 → MI nb p → MI nb r → (∀ x, spn p.1 p.2.2.2.2 x → spn r.1 r.2.2.2.2 x) → (isDM nb p = true → isDM nb r = true) → r.2.2.2.2.length ≤ 4 + tk → ndM nb fr false n tk p = nI a → ∃ b, b ≤ a ∧ ndM nb fr true n tk r = nI b := by
  intro n
  induction n with
  | zero =>
    intro tk p r hk hp hr hs hd hl h
    by_cases hdp : isDM nb p = true
    · rw [nd_done hk hdp] at h
      have := (nI_eq (a := tk) (b := a) (by omega) (by omega)).mp h
      omega
    · have h : (if isDM nb p = true then nI 100 else -1) = nI a := h
      rw [if_neg hdp] at h
      exact absurd h (m1_ne (by omega))
  | succ n ih =>
    intro tk p r hk hp hr hs hd hl h
    by_cases hdp : isDM nb p = true
    · rw [nd_done hk hdp] at h
      exact ⟨tk, by rw [(nI_eq (a := tk) (b := a) (by omega) (by omega)).mp h]; exact Nat.le_refl _, nd_done hk (hd hdp)⟩
    · rw [nd_next hdp] at h
      have hta : tk + 1 ≤ a := by
        rcases nd_rng n (tk + 1) (stpM nb fr false tk p) (by omega) with e | ⟨v, h1, h2, e⟩
        · rw [e] at h; exact absurd h (m1_ne (by omega))
        · rw [e] at h
          have := (nI_eq (a := v) (b := a) (by omega) (by omega)).mp h
          omega
      by_cases hdr : isDM nb r = true
      · exact ⟨tk, by omega, nd_done hk hdr⟩
      · rw [nd_next hdr]
        have hm := mskM_lt (nb := nb) h0 (fr + tk)
        have hm4 := Nat.lt_of_lt_of_le hm (pow_nb hn)
        obtain ⟨hp2, _⟩ := MI_get hn hm hp
        obtain ⟨hr2, _⟩ := MI_get hn hm hr
        obtain ⟨hr3, _⟩ := MI_elm hn hr2
        obtain ⟨g1, g2⟩ := sp_get (MI_W hn hr) hm4 (by omega)
        obtain ⟨k1, _, _⟩ := elm_all hn hr2
        have hl2 := get_len (mskM nb (fr + tk)) r
        have hl3 := elm_len hn hr2
        have hsp : ∀ x, spn (getM (mskM nb (fr + tk)) p).1 (getM (mskM nb (fr + tk)) p).2.2.2.2 x → spn (getM (mskM nb (fr + tk)) r).1 (getM (mskM nb (fr + tk)) r).2.2.2.2 x := by
          intro x hx
          refine spn_le (pI_get (spn_cl _ _) (MI_W hn hp) hm4 ?_ g2) hx
          exact ⟨fun b h12 hb => g1 _ (hs _ ((spn_pI _ _).1 b h12 hb)), fun w hw => g1 _ (hs _ ((spn_pI _ _).2 w hw))⟩
        rw [stp_t]
        rw [stp_f] at h
        refine ih (tk + 1) _ _ (by omega) hp2 hr3 (fun x hx => k1 x (hsp x hx)) (fun hdone => ?_) (by omega) h
        refine decide_eq_true (elm_done hn hr2 fun b hb => hsp _ ?_)
        refine (spn_pI _ _).1 b (by omega) ?_
        rw [of_decide_eq_true hdone, Nat.testBit_two_pow_sub_one, decide_eq_true hb]
/-! one mix: what it brings -/
def gd (m : Nat) (q : MR) : Nat := pc (getM m q.2).1 - pc q.2.1
theorem gd_le (m : Nat) (q : MR) : gd m q ≤ 12 := by
  have := pc_le (getM m q.2).1
  unfold gd
  omega
theorem gtv_nI {nb m : Nat} (hn : nb ≤ 12) (hm : m < 2 ^ nb) {q : MR} (hi : MI nb q.2) : gtv m q = nI (gd m q) ∧ pc (getM m q.2).1 = pc q.2.1 + gd m q := by
  obtain ⟨_, hs⟩ := MI_get hn hm hi
  have h1 := pc_sub hs
  unfold gtv gd
  rw [pk_sub h1]
  exact ⟨rfl, by omega⟩
theorem hpM_gd {nb k : Nat} (h0 : 0 < nb) (hn : nb ≤ 12) {q : MR} (hi : MI nb q.2) : hpM nb q k = decide (0 < gd (mskM nb k) q) := by
  unfold hpM
  rw [(gtv_nI hn (mskM_lt h0 k) hi).1]
  refine decide_eq_decide.mpr ?_
  have := gd_le (mskM nb k) q
  exact nI_ltI (a := 0) (by omega) (by omega)
theorem nhS_spec (P : Nat → Bool) : ∀ (n k : Nat), (nhS P n k = -1 ∧ ∀ j, k ≤ j → j < k + n → P j = false) ∨ ∃ h, k ≤ h ∧ h < k + n ∧ nhS P n k = nI h ∧ P h = true ∧ ∀ j, k ≤ j → j < h → P j = false := by
  intro n
  induction n with
  | zero => intro k; exact Or.inl ⟨rfl, fun j h1 h2 => absurd h2 (by omega)⟩
  | succ n ih =>
    intro k
    by_cases hp : P k = true
    · right
      refine ⟨k, Nat.le_refl _, by omega, ?_, hp, fun j h1 h2 => absurd h2 (by omega)⟩
      show (if P k = true then nI k else _) = nI k
      rw [if_pos hp]
    · have hpf : P k = false := by
        cases q : P k
        · rfl
        · exact absurd q hp
      have e : nhS P (n + 1) k = nhS P n (k + 1) := by
        show (if P k = true then nI k else nhS P n (k + 1)) = _
        rw [if_neg hp]
      rw [e]
      rcases ih (k + 1) with ⟨h1, h2⟩ | ⟨h, h1, h2, h3, h4, h5⟩
      · left
        refine ⟨h1, fun j hj1 hj2 => ?_⟩
        rcases Nat.eq_or_lt_of_le hj1 with e | e
        · rw [← e]; exact hpf
        · exact h2 j e (by omega)
      · right
        refine ⟨h, by omega, by omega, h3, h4, fun j hj1 hj2 => ?_⟩
        rcases Nat.eq_or_lt_of_le hj1 with e | e
        · rw [← e]; exact hpf
        · exact h5 j e hj2
/-- what a receiver counts -/
theorem get_told {nb m B : Nat} (hn : nb ≤ 12) (hm : m < 2 ^ nb) {q : MQ5} (hi : MI nb q) (hc : CN B q) (hB : B ≤ 100000) : pc q.1 < pc (getM m q).1 ∨ q.2.2.1 < (getM m q).2.2.1 ∨ q.2.2.2.1 < (getM m q).2.2.2.1 ∨ 0 < (getM m q).2.2.2.2.length := by
  obtain ⟨K, go, tn, lo, W⟩ := q
  obtain ⟨G, T, O, c1, c2, c3, c4, c5⟩ := hc
  have c2 : tn = nI T := c2
  have c3 : lo = nI O := c3
  have hW : wOK K W := MI_wOK hn hi
  show pc K < _ ∨ tn < _ ∨ lo < _ ∨ _
  by_cases h2 : pc (andn m K) ≤ 1
  · rcases (show pc (andn m K) = 0 ∨ pc (andn m K) = 1 by omega) with e | e
    · rw [getM_0 e]
      right; left
      show tn < tn + 1
      rw [c2, nI_1]
      exact nI_lt (by omega) (by omega)
    · left
      rw [getM_1 e]
      obtain ⟨_, _, _, h4, _⟩ := plM_inv (nb := nb) (knW (andn m K) W).length (K ||| andn m K) tn (knW (andn m K) W) (knW_wOK hW) (Nat.or_lt_two_pow hi.1 (andn_ltb hm)) (knW_ltb (fun w hw => (hi.2.1 w hw).1))
      have h5 := pc_sub h4
      rw [pc_disj (by rw [Nat.and_comm]; exact andn_disj _ _), e] at h5
      show pc K < pc (plM (knW (andn m K) W).length (K ||| andn m K) tn (knW (andn m K) W)).1
      omega
  · by_cases h24 : W.length < 24
    · rw [getM_w h2 h24]
      right; right; right
      show 0 < (W ++ [andn m K]).length
      rw [List.length_append, List.length_singleton]; omega
    · rw [getM_l h2 h24]
      right; right; left
      show lo < lo + 1
      rw [c3, nI_1]
      exact nI_lt (by omega) (by omega)
/-- a mix has a block at least -/
theorem msk_pc {nb : Nat} (h0 : 0 < nb) (hn : nb ≤ 12) (k : Nat) : 1 ≤ pc (mskM nb k) := by
  have hdeg : 1 ≤ mnN nb ((k * 7919 + 17) % 30269 % 16) := by
    have : ∀ j, j < 16 → 1 ≤ degN j := by decide
    have h1 := this ((k * 7919 + 17) % 30269 % 16) (Nat.mod_lt _ (by decide))
    unfold mnN
    split <;> omega
  have key : ∀ (n x m : Nat), m < 2 ^ nb → pc m + n ≤ nb → pc (mkS nb n x m) = pc m + n := by
    intro n
    induction n with
    | zero => intro x m _ _; rfl
    | succ n ih =>
      intro x m hm hp
      have hb0 : (x * 171 + 11) % 30269 % nb < nb := Nat.mod_lt _ h0
      have hfl := ffN_lt (m := m) h0 nb _ hb0
      have hfree := ffN_free (m := m) h0 nb _ hb0 (ff_ex hb0 hn (by omega))
      rw [mkS, ih _ _ (or_pow_lt hm hfl) (by rw [pc_or (by omega) hfree]; omega), pc_or (by omega) hfree]
      omega
  have h1 := key (mnN nb ((k * 7919 + 17) % 30269 % 16)) ((k * 7919 + 17) % 30269) 0 (Nat.two_pow_pos nb) (by rw [pc_of0, Nat.zero_add]; exact mnN_le _ _)
  have h2 : pc (mskM nb k) = pc 0 + mnN nb ((k * 7919 + 17) % 30269 % 16) := h1
  rw [pc_of0] at h2
  omega
/-! the object's state, out of the relation -/
theorem rz_nb {B : Nat} {z : SS} {y : MS} (h : RZ B z y) : z.1 = y.1 ∧ 2 ≤ y.1 ∧ y.1 ≤ 12 := by
  obtain ⟨vn, h1, h2, h3, h4, h5, h6, h7, h8⟩ := h
  exact ⟨h3, by omega, by omega⟩
theorem rz_MI {B : Nat} {z : SS} {y : MS} (h : RZ B z y) {u : Nat} (hu : u < 3) : MI y.1 (y.2.2.2 u).2 ∧ CN B (y.2.2.2 u).2 := by
  obtain ⟨vn, h1, h2, h3, h4, h5, h6, h7, h8⟩ := h
  obtain ⟨_, _, e3, e4⟩ := h8 u hu
  rw [h3] at e3
  exact ⟨e3, e4⟩
theorem rz_va {B : Nat} {z : SS} {y : MS} (h : RZ B z y) (b : Nat) : ∃ v, v < 65536 ∧ z.2.1 b = nI v ∧ y.2.1 b = nI v := by
  obtain ⟨vn, h1, h2, h3, h4, h5, h6, h7, h8⟩ := h
  exact ⟨vn b, h1 b, h2 b, by rw [← h4]; exact h2 b⟩
