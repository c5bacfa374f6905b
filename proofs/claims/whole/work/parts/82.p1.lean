/-! THE CLASS AND THE REFERENCE SAY THE SAME. A mix of the blocks m as the class holds it: m, and above it the value -/
def vlN (vn : Nat → Nat) (m : Nat) : Nat → Nat
  | 0 => 0
  | i + 1 => vlN vn m i ^^^ (if m.testBit i = true then vn i else 0)
def vl (vn : Nat → Nat) (m : Nat) : Nat := vlN vn m 12
def mk (vn : Nat → Nat) (m : Nat) : Nat := m ^^^ (vl vn m <<< 12)
def vOK (vn : Nat → Nat) : Prop := ∀ b, vn b < 65536
theorem x4 (a b c d : Nat) : (a ^^^ b) ^^^ (c ^^^ d) = (a ^^^ c) ^^^ (b ^^^ d) := by ac_rfl
theorem vlN_xor (vn : Nat → Nat) (a b : Nat) : ∀ i, vlN vn (a ^^^ b) i = vlN vn a i ^^^ vlN vn b i := by
  intro i
  induction i with
  | zero => show (0 : Nat) = 0 ^^^ 0; decide
  | succ i ih =>
    rw [vlN, vlN, vlN, ih, x4, Nat.testBit_xor]
    congr 1
    cases a.testBit i <;> cases b.testBit i <;> simp
theorem vlN_lt {vn : Nat → Nat} (h : vOK vn) (m : Nat) : ∀ i, vlN vn m i < 65536 := by
  intro i
  induction i with
  | zero => exact (by decide : 0 < 65536)
  | succ i ih =>
    rw [vlN]
    refine Nat.xor_lt_two_pow (n := 16) ih ?_
    split
    · exact h i
    · decide
theorem mk_xor (vn : Nat → Nat) (a b : Nat) : mk vn (a ^^^ b) = mk vn a ^^^ mk vn b := by
  unfold mk vl
  rw [vlN_xor, Nat.shiftLeft_xor_distrib, x4]
theorem vlN_0 (vn : Nat → Nat) : ∀ i, vlN vn 0 i = 0 := by
  intro i
  induction i with
  | zero => rfl
  | succ i ih => rw [vlN, ih, Nat.zero_testBit, if_neg (by decide), Nat.xor_zero]
theorem mk_0 (vn : Nat → Nat) : mk vn 0 = 0 := by
  unfold mk vl
  rw [vlN_0]
  rfl
theorem tb_hi {m i : Nat} (h : m < 4096) (hi : 12 ≤ i) : m.testBit i = false := Nat.testBit_lt_two_pow (Nat.lt_of_lt_of_le h (Nat.pow_le_pow_right (n := 2) (by decide) hi))
theorem mk_tb {vn : Nat → Nat} {m i : Nat} (hi : i < 12) : (mk vn m).testBit i = m.testBit i := by
  unfold mk
  rw [Nat.testBit_xor, Nat.testBit_shiftLeft, decide_eq_false (by omega)]
  simp
theorem mk_mod {vn : Nat → Nat} {m : Nat} (h : m < 4096) : mk vn m % 2 ^ 12 = m := by
  apply Nat.eq_of_testBit_eq
  intro i
  rw [Nat.testBit_mod_two_pow]
  by_cases hi : i < 12
  · rw [mk_tb hi, decide_eq_true hi]; rfl
  · rw [decide_eq_false hi, tb_hi h (by omega)]; rfl
theorem mk_div {vn : Nat → Nat} {m : Nat} (h : m < 4096) : mk vn m / 2 ^ 12 = vl vn m := by
  apply Nat.eq_of_testBit_eq
  intro i
  rw [Nat.testBit_div_two_pow]
  unfold mk
  rw [Nat.testBit_xor, Nat.testBit_shiftLeft, tb_hi h (by omega), decide_eq_true (by omega), Nat.add_sub_cancel]
  simp
theorem mk_lt {vn : Nat → Nat} (hv : vOK vn) {m : Nat} (h : m < 4096) : mk vn m < 2 ^ 28 := by
  have h1 := Nat.div_add_mod (mk vn m) (2 ^ 12)
  rw [mk_mod h, mk_div h] at h1
  have h2 : vl vn m < 65536 := vlN_lt hv m 12
  omega
theorem mkI_low {vn : Nat → Nat} (hv : vOK vn) {m : Nat} (h : m < 4096) : nI (mk vn m) &&& 4095 = nI m := by
  have := mk_lt hv h
  rw [pk_andN (by omega) 12 (by decide), mk_mod h]
theorem mkI_hi {vn : Nat → Nat} (hv : vOK vn) {m : Nat} (h : m < 4096) : nI (mk vn m) >>> ((12 : Int32) &&& 31) = nI (vl vn m) := by
  have := mk_lt hv h
  rw [pk_shrN (by omega) _ 12 (by decide), mk_div h]
theorem hld_nI {x b : Nat} (hx : x < 2 ^ 31) (hb : b < 32) : hldI (nI x) (nI b) = if x.testBit b = true then 1 else 0 := by
  unfold hldI
  rw [bN_I hx hb, bN_t]
  cases x.testBit b <;> rfl
theorem hld_mk {vn : Nat → Nat} (hv : vOK vn) {m b : Nat} (h : m < 4096) (hb : b < 12) : hldI (nI (mk vn m)) (nI b) = if m.testBit b = true then 1 else 0 := by
  have := mk_lt hv h
  rw [hld_nI (by omega) (by omega), mk_tb hb]
theorem swar_sp2 : ∀ u, u < 64 → ∀ v, v < 64 → swar (nI (u * 64 + v)) = nI (pc (u * 64 + v)) := by decide +kernel
theorem swar_pc {m : Nat} (h : m < 4096) : swar (nI m) = nI (pc m) := by
  have h1 := swar_sp2 (m / 64) (by omega) (m % 64) (by omega)
  rw [show m / 64 * 64 + m % 64 = m by omega] at h1
  exact h1
theorem bcI_mk {vn : Nat → Nat} (hv : vOK vn) {m : Nat} (h : m < 4096) : bcI (nI (mk vn m)) = nI (pc m) := by
  unfold bcI
  rw [mkI_low hv h, swar_pc h]
theorem pc1_sp2 : ∀ u, u < 64 → ∀ v, v < 64 → (pc (u * 64 + v) = 0 → u * 64 + v = 0) ∧ (pc (u * 64 + v) = 1 → (List.range 12).any (fun b => decide (u * 64 + v = 2 ^ b)) = true) := by decide +kernel
theorem pc_0 {m : Nat} (h : m < 4096) (h0 : pc m = 0) : m = 0 := by
  have h1 := (pc1_sp2 (m / 64) (by omega) (m % 64) (by omega)).1
  rw [show m / 64 * 64 + m % 64 = m by omega] at h1
  exact h1 h0
theorem pc_1 {m : Nat} (h : m < 4096) (h0 : pc m = 1) : ∃ b, b < 12 ∧ m = 2 ^ b := by
  have h1 := (pc1_sp2 (m / 64) (by omega) (m % 64) (by omega)).2
  rw [show m / 64 * 64 + m % 64 = m by omega] at h1
  obtain ⟨b, hb, e⟩ := List.any_eq_true.mp (h1 h0)
  exact ⟨b, List.mem_range.mp hb, of_decide_eq_true e⟩
theorem pc_of0 : pc 0 = 0 := by decide
theorem pc_pow {b : Nat} (h : b < 12) : pc (2 ^ b) = 1 := by
  have : ∀ b, b < 12 → pc (2 ^ b) = 1 := by decide +kernel
  exact this b h
theorem tb_pow (a i : Nat) : (2 ^ a).testBit i = decide (a = i) := Nat.testBit_two_pow
/-- what the class knows of single blocks -/
def alR (vn : Nat → Nat) (K : Nat) (al : Nat → Int32) : Prop := ∀ b, b < 12 → al b = if K.testBit b = true then nI (mk vn (2 ^ b)) else 0
def cS (K i x : Nat) : Nat := if x.testBit i = true ∧ K.testBit i = true then x ^^^ 2 ^ i else x
theorem cS_lt {K i x : Nat} (hi : i < 12) (h : x < 4096) : cS K i x < 4096 := by
  unfold cS
  split
  · exact xor_lt h (pow12 hi)
  · exact h
theorem itr_cS (K : Nat) : ∀ n i x j, (itr (cS K) n i x).testBit j = (x.testBit j && !(decide (i ≤ j ∧ j < i + n) && K.testBit j)) := by
  intro n
  induction n with
  | zero =>
    intro i x j
    rw [decide_eq_false (by omega)]
    show x.testBit j = _
    simp
  | succ n ih =>
    intro i x j
    rw [itr_s, ih]
    unfold cS
    by_cases e : i = j
    · subst e
      rw [decide_eq_false (by omega : ¬ (i + 1 ≤ i ∧ i < i + 1 + n)), decide_eq_true (by omega : i ≤ i ∧ i < i + (n + 1))]
      cases hx : x.testBit i <;> cases hK : K.testBit i <;> simp [hx, tb_pow]
    · have e1 : (if x.testBit i = true ∧ K.testBit i = true then x ^^^ 2 ^ i else x).testBit j = x.testBit j := by
        split
        · rw [Nat.testBit_xor, tb_pow, decide_eq_false e, Bool.xor_false]
        · rfl
      rw [e1]
      congr 3
      exact decide_eq_decide.mpr (by omega)
theorem cS_andn {K m : Nat} (h : m < 4096) : itr (cS K) 12 0 m = andn m K := by
  apply Nat.eq_of_testBit_eq
  intro j
  rw [itr_cS, andn_t]
  by_cases hj : j < 12
  · rw [decide_eq_true (by omega : 0 ≤ j ∧ j < 0 + 12)]; simp
  · rw [tb_hi h (by omega)]; simp
theorem leftOf_fold {vn : Nat → Nat} (hv : vOK vn) {K : Nat} {al : Nat → Int32} (ha : alR vn K al) : ∀ n i x, i + n = 12 → x < 4096 → itr (fun i r => if hldI r (nI i) = 0 then r else r ^^^ al i) n i (nI (mk vn x)) = nI (mk vn (itr (cS K) n i x)) := by
  intro n
  induction n with
  | zero => intro i x _ _; rfl
  | succ n ih =>
    intro i x hi hx
    rw [itr_s, itr_s, ← ih (i + 1) _ (by omega) (cS_lt (by omega) hx)]
    congr 1
    show (if hldI (nI (mk vn x)) (nI i) = 0 then nI (mk vn x) else nI (mk vn x) ^^^ al i) = _
    rw [hld_mk hv hx (by omega), ha i (by omega)]
    unfold cS
    cases h1 : x.testBit i
    · rw [if_neg (by decide : ¬ false = true), if_pos rfl, if_neg (by rintro ⟨z, _⟩; exact absurd z (by decide))]
    · rw [if_pos rfl, if_neg (by decide : ¬ (1 : Int32) = 0)]
      cases h2 : K.testBit i
      · rw [if_neg (by decide : ¬ false = true), if_neg (by rintro ⟨_, z⟩; exact absurd z (by decide)), xor_0]
      · rw [if_pos rfl, if_pos ⟨rfl, rfl⟩, nI_xor, mk_xor]
theorem leftOf_mk {vn : Nat → Nat} (hv : vOK vn) {K m : Nat} {al : Nat → Int32} (ha : alR vn K al) (hm : m < 4096) : leftOf al (nI (mk vn m)) = nI (mk vn (andn m K)) := by
  rw [← cS_andn hm]
  exact leftOf_fold hv ha 12 0 m rfl hm
theorem andn_pow {m b : Nat} : andn m (2 ^ b) = if m.testBit b = true then m ^^^ 2 ^ b else m := by
  apply Nat.eq_of_testBit_eq
  intro i
  rw [andn_t, tb_pow]
  split
  · next h =>
    rw [Nat.testBit_xor, tb_pow]
    by_cases e : b = i
    · subst e; rw [h]; simp
    · rw [decide_eq_false e]; simp
  · next h =>
    by_cases e : b = i
    · subst e
      cases q : m.testBit b
      · rfl
      · exact absurd q h
    · rw [decide_eq_false e]; simp
theorem lrn_mk {vn : Nat → Nat} (hv : vOK vn) {m b : Nat} (hm : m < 4096) (hb : b < 12) : lrn (nI (mk vn (2 ^ b))) (nI (mk vn m)) = nI (mk vn (andn m (2 ^ b))) := by
  unfold lrn
  have h1 := mk_lt hv hm
  have h2 := mk_lt hv (pow12 hb)
  have e : (nI (mk vn m) &&& nI (mk vn (2 ^ b))) &&& 4095 = nI (m &&& 2 ^ b) := by
    rw [nI_and, pk_andN (Nat.lt_of_le_of_lt Nat.and_le_left (by omega)) 12 (by decide)]
    congr 1
    apply Nat.eq_of_testBit_eq
    intro i
    rw [Nat.testBit_mod_two_pow, Nat.testBit_and, Nat.testBit_and]
    by_cases hi : i < 12
    · rw [decide_eq_true hi, mk_tb hi, mk_tb hi]; rfl
    · rw [decide_eq_false hi, tb_hi hm (by omega)]; rfl
  rw [e, andn_pow]
  have hlt : m &&& 2 ^ b < 2 ^ 31 := Nat.lt_of_le_of_lt Nat.and_le_left (by omega)
  cases h : m.testBit b
  · rw [if_pos (by rw [and_pow.mpr h]; rfl), if_neg (by decide)]
  · rw [if_neg (fun z => by rw [and_pow.mp ((nI_e0 hlt).mp z)] at h; exact absurd h (by decide)), if_pos rfl, nI_xor, mk_xor]
theorem lrnA_mk {vn : Nat → Nat} (hv : vOK vn) {K b : Nat} {al : Nat → Int32} (ha : alR vn K al) (hb : b < 12) : alR vn (K ||| 2 ^ b) (lrnA (nI (mk vn (2 ^ b))) al) := by
  intro c hc
  unfold lrnA
  rw [if_pos hc, hld_mk hv (pow12 hb) hc, tb_pow, Nat.testBit_or, tb_pow]
  by_cases e : b = c
  · subst e
    rw [decide_eq_true rfl, Bool.or_true, if_pos rfl, if_neg (by decide), if_pos rfl]
  · rw [decide_eq_false e, Bool.or_false, if_pos (by decide)]
    exact ha c hc
