def vlN (vn : Nat → Nat) (m : Nat) : Nat → Nat
  | 0 => 0
  | i + 1 => vlN vn m i ^^^ (if m.testBit i = true then vn i else 0)
def vl (vn : Nat → Nat) (m : Nat) : Nat := vlN vn m 12
def mk (vn : Nat → Nat) (m : Nat) : Nat := m ^^^ (vl vn m <<< 12)
def vOK (vn : Nat → Nat) : Prop := ∀ b, vn b < 65536
theorem x4 (a b c d : Nat) : (a ^^^ b) ^^^ (c ^^^ d) = (a ^^^ c) ^^^ (b ^^^ d) := by ac_rfl
theorem vlN_xor (vn : Nat → Nat) (a b : Nat) : ∀ i, vlN vn (a ^^^ b) i = vlN vn a i ^^^ vlN vn b i := by
  intro i
  induction i with
  | zero => show (0 : Nat) = 0 ^^^ 0; decide
  | succ i ih =>
    rw [vlN, vlN, vlN, ih, x4, Nat.testBit_xor]
    congr 1
    cases a.testBit i <;> cases b.testBit i <;> simp
theorem vlN_lt {vn : Nat → Nat} (h : vOK vn) (m : Nat) : ∀ i, vlN vn m i < 65536 := by
  intro i
  induction i with
  | zero => exact (by decide : 0 < 65536)
  | succ i ih =>
    rw [vlN]
    refine Nat.xor_lt_two_pow (n := 16) ih ?_
    split
    · exact h i
    · decide
theorem mk_xor (vn : Nat → Nat) (a b : Nat) : mk vn (a ^^^ b) = mk vn a ^^^ mk vn b := by
  unfold mk vl
  rw [vlN_xor, Nat.shiftLeft_xor_distrib, x4]
theorem vlN_0 (vn : Nat → Nat) : ∀ i, vlN vn 0 i = 0 := by
  intro i
  induction i with
  | zero => rfl
  | succ i ih => rw [vlN, ih, Nat.zero_testBit, if_neg (by decide), Nat.xor_zero]
theorem mk_0 (vn : Nat → Nat) : mk vn 0 = 0 := by
  unfold mk vl
  rw [vlN_0]
  rfl
theorem tb_hi {m i : Nat} (h : m < 4096) (hi : 12 ≤ i) : m.testBit i = false := Nat.testBit_lt_two_pow (Nat.lt_of_lt_of_le h (Nat.pow_le_pow_right (n := 2) (by decide) hi))
theorem mk_tb {vn : Nat → Nat} {m i : Nat} (hi : i < 12) : (mk vn m).testBit i = m.testBit i := by
  unfold mk
  rw [Nat.testBit_xor, Nat.testBit_shiftLeft, decide_eq_false (by omega)]
  simp
theorem mk_mod {vn : Nat → Nat} {m : Nat} (h : m < 4096) : mk vn m % 2 ^ 12 = m := by
  apply Nat.eq_of_testBit_eq
  intro i
  rw [Nat.testBit_mod_two_pow]
  by_cases hi : i < 12
  · rw [mk_tb hi, decide_eq_true hi]; rfl
  · rw [decide_eq_false hi, tb_hi h (by omega)]; rfl
theorem mk_div {vn : Nat → Nat} {m : Nat} (h : m < 4096) : mk vn m / 2 ^ 12 = vl vn m := by
  apply Nat.eq_of_testBit_eq
  intro i
  rw [Nat.testBit_div_two_pow]
  unfold mk
  rw [Nat.testBit_xor, Nat.testBit_shiftLeft, tb_hi h (by omega), decide_eq_true (by omega), Nat.add_sub_cancel]
  simp
theorem mk_lt {vn : Nat → Nat} (hv : vOK vn) {m : Nat} (h : m < 4096) : mk vn m < 2 ^ 28 := by
  have h1 := Nat.div_add_mod (mk vn m) (2 ^ 12)
  rw [mk_mod h, mk_div h] at h1
  have h2 : vl vn m < 65536 := vlN_lt hv m 12
  omega
theorem mkI_low {vn : Nat → Nat} (hv : vOK vn) {m : Nat} (h : m < 4096) : nI (mk vn m) &&& 4095 = nI m := by
  have := mk_lt hv h
  rw [pk_andN (by omega) 12 (by decide), mk_mod h]
theorem mkI_hi {vn : Nat → Nat} (hv : vOK vn) {m : Nat} (h : m < 4096) : nI (mk vn m) >>> ((12 : Int32) &&& 31) = nI (vl vn m) := by
  have := mk_lt hv h
  rw [pk_shrN (by omega) _ 12 (by decide), mk_div h]
theorem hld_nI {x b : Nat} (hx : x < 2 ^ 31) (hb : b < 32) : hldI (nI x) (nI b) = if x.testBit b = true then 1 else 0 := by
  unfold hldI
  rw [bN_I hx hb, bN_t]
  cases x.testBit b <;> rfl
theorem hld_mk {vn : Nat → Nat} (hv : vOK vn) {m b : Nat} (h : m < 4096) (hb : b < 12) : hldI (nI (mk vn m)) (nI b) = if m.testBit b = true then 1 else 0 := by
  have := mk_lt hv h
  rw [hld_nI (by omega) (by omega), mk_tb hb]
theorem swar_sp2 : ∀ u, u < 64 → ∀ v, v < 64 → swar (nI (u * 64 + v)) = nI (pc (u * 64 + v)) := by decide +kernel
theorem swar_pc {m : Nat} (h : m < 4096) : swar (nI m) = nI (pc m) := by
  have h1 := swar_sp2 (m / 64) (by omega) (m % 64) (by omega)
  rw [show m / 64 * 64 + m % 64 = m by omega] at h1
  exact h1
theorem bcI_mk {vn : Nat → Nat} (hv : vOK vn) {m : Nat} (h : m < 4096) : bcI (nI (mk vn m)) = nI (pc m) := by
  unfold bcI
  rw [mkI_low hv h, swar_pc h]
theorem pc1_sp2 : ∀ u, u < 64 → ∀ v, v < 64 → (pc (u * 64 + v) = 0 → u * 64 + v = 0) ∧ (pc (u * 64 + v) = 1 → (List.range 12).any (fun b => decide (u * 64 + v = 2 ^ b)) = true) := by decide +kernel
theorem pc_0 {m : Nat} (h : m < 4096) (h0 : pc m = 0) : m = 0 := by
  have h1 := (pc1_sp2 (m / 64) (by omega) (m % 64) (by omega)).1
  rw [show m / 64 * 64 + m % 64 = m by omega] at h1
  exact h1 h0
theorem pc_1 {m : Nat} (h : m < 4096) (h0 : pc m = 1) : ∃ b, b < 12 ∧ m = 2 ^ b := by
  have h1 := (pc1_sp2 (m / 64) (by omega) (m % 64) (by omega)).2
  rw [show m / 64 * 64 + m % 64 = m by omega] at h1
  obtain ⟨b, hb, e⟩ := List.any_eq_true.mp (h1 h0)
  exact ⟨b, List.mem_range.mp hb, of_decide_eq_true e⟩
theorem pc_of0 : pc 0 = 0 := by decide
theorem pc_pow {b : Nat} (h : b < 12) : pc (2 ^ b) = 1 := by
  have : ∀ b, b < 12 → pc (2 ^ b) = 1 := by decide +kernel
  exact this b h
theorem tb_pow (a i : Nat) : (2 ^ a).testBit i = decide (a = i) := Nat.testBit_two_pow
/-- what the class knows of single blocks -/
def alR (vn : Nat → Nat) (K : Nat) (al : Nat → Int32) : Prop := ∀ b, b < 12 → al b = if K.testBit b = true then nI (mk vn (2 ^ b)) else 0
def cS (K i x : Nat) : Nat := if x.testBit i = true ∧ K.testBit i = true then x ^^^ 2 ^ i else x
theorem cS_lt {K i x : Nat} (hi : i < 12) (h : x < 4096) : cS K i x < 4096 := by
  unfold cS
  split
  · exact xor_lt h (pow12 hi)
  · exact h
theorem itr_cS (K : Nat) : ∀ n i x j, (itr (cS K) n i x).testBit j = (x.testBit j && !(decide (i ≤ j ∧ j < i + n) && K.testBit j)) := by
  intro n
  induction n with
  | zero =>
    intro i x j
    rw [decide_eq_false (by omega)]
    show x.testBit j = _
    simp
  | succ n ih =>
    intro i x j
    rw [itr_s, ih]
    unfold cS
    by_cases e : i = j
    · subst e
      rw [decide_eq_false (by omega : ¬ (i + 1 ≤ i ∧ i < i + 1 + n)), decide_eq_true (by omega : i ≤ i ∧ i < i + (n + 1))]
      cases hx : x.testBit i <;> cases hK : K.testBit i <;> simp [hx, tb_pow]
    · have e1 : (if x.testBit i = true ∧ K.testBit i = true then x ^^^ 2 ^ i else x).testBit j = x.testBit j := by
        split
        · rw [Nat.testBit_xor, tb_pow, decide_eq_false e, Bool.xor_false]
        · rfl
      rw [e1]
      congr 3
      exact decide_eq_decide.mpr (by omega)
theorem cS_andn {K m : Nat} (h : m < 4096) : itr (cS K) 12 0 m = andn m K := by
  apply Nat.eq_of_testBit_eq
  intro j
  rw [itr_cS, andn_t]
  by_cases hj : j < 12
  · rw [decide_eq_true (by omega : 0 ≤ j ∧ j < 0 + 12)]; simp
  · rw [tb_hi h (by omega)]; simp
theorem leftOf_fold {vn : Nat → Nat} (hv : vOK vn) {K : Nat} {al : Nat → Int32} (ha : alR vn K al) : ∀ n i x, i + n = 12 → x < 4096 → itr (fun i r => if hldI r (nI i) = 0 then r else r ^^^ al i) n i (nI (mk vn x)) = nI (mk vn (itr (cS K) n i x)) := by
  intro n
  induction n with
  | zero => intro i x _ _; rfl
  | succ n ih =>
    intro i x hi hx
    rw [itr_s, itr_s, ← ih (i + 1) _ (by omega) (cS_lt (by omega) hx)]
    congr 1
    show (if hldI (nI (mk vn x)) (nI i) = 0 then nI (mk vn x) else nI (mk vn x) ^^^ al i) = _
    rw [hld_mk hv hx (by omega), ha i (by omega)]
    unfold cS
    cases h1 : x.testBit i
    · rw [if_neg (by decide : ¬ false = true), if_pos rfl, if_neg (by rintro ⟨z, _⟩; exact absurd z (by decide))]
    · rw [if_pos rfl, if_neg (by decide : ¬ (1 : Int32) = 0)]
      cases h2 : K.testBit i
      · rw [if_neg (by decide : ¬ false = true), if_neg (by rintro ⟨_, z⟩; exact absurd z (by decide)), xor_0]
      · rw [if_pos rfl, if_pos ⟨rfl, rfl⟩, nI_xor, mk_xor]
theorem leftOf_mk {vn : Nat → Nat} (hv : vOK vn) {K m : Nat} {al : Nat → Int32} (ha : alR vn K al) (hm : m < 4096) : leftOf al (nI (mk vn m)) = nI (mk vn (andn m K)) := by
  rw [← cS_andn hm]
  exact leftOf_fold hv ha 12 0 m rfl hm
theorem andn_pow {m b : Nat} : andn m (2 ^ b) = if m.testBit b = true then m ^^^ 2 ^ b else m := by
  apply Nat.eq_of_testBit_eq
  intro i
  rw [andn_t, tb_pow]
  split
  · next h =>
    rw [Nat.testBit_xor, tb_pow]
    by_cases e : b = i
    · subst e; rw [h]; simp
    · rw [decide_eq_false e]; simp
  · next h =>
    by_cases e : b = i
    · subst e
      cases q : m.testBit b
      · rfl
      · exact absurd q h
    · rw [decide_eq_false e]; simp
theorem lrn_mk {vn : Nat → Nat} (hv : vOK vn) {m b : Nat} (hm : m < 4096) (hb : b < 12) : lrn (nI (mk vn (2 ^ b))) (nI (mk vn m)) = nI (mk vn (andn m (2 ^ b))) := by
  unfold lrn
  have h1 := mk_lt hv hm
  have h2 := mk_lt hv (pow12 hb)
  have e : (nI (mk vn m) &&& nI (mk vn (2 ^ b))) &&& 4095 = nI (m &&& 2 ^ b) := by
    rw [nI_and, pk_andN (Nat.lt_of_le_of_lt Nat.and_le_left (by omega)) 12 (by decide)]
    congr 1
    apply Nat.eq_of_testBit_eq
    intro i
    rw [Nat.testBit_mod_two_pow, Nat.testBit_and, Nat.testBit_and]
    by_cases hi : i < 12
    · rw [decide_eq_true hi, mk_tb hi, mk_tb hi]; rfl
    · rw [decide_eq_false hi, tb_hi hm (by omega)]; rfl
  rw [e, andn_pow]
  have hlt : m &&& 2 ^ b < 2 ^ 31 := Nat.lt_of_le_of_lt Nat.and_le_left (by omega)
  cases h : m.testBit b
  · rw [if_pos (by rw [and_pow.mpr h]; rfl), if_neg (by decide)]
  · rw [if_neg (fun z => by rw [and_pow.mp ((nI_e0 hlt).mp z)] at h; exact absurd h (by decide)), if_pos rfl, nI_xor, mk_xor]
theorem lrnA_mk {vn : Nat → Nat} (hv : vOK vn) {K b : Nat} {al : Nat → Int32} (ha : alR vn K al) (hb : b < 12) : alR vn (K ||| 2 ^ b) (lrnA (nI (mk vn (2 ^ b))) al) := by
  intro c hc
  unfold lrnA
  rw [if_pos hc, hld_mk hv (pow12 hb) hc, tb_pow, Nat.testBit_or, tb_pow]
  by_cases e : b = c
  · subst e
    rw [decide_eq_true rfl, Bool.or_true, if_pos rfl, if_neg (by decide), if_pos rfl]
  · rw [decide_eq_false e, Bool.or_false, if_pos (by decide)]
    exact ha c hc
def wOK (K : Nat) (W : List Nat) : Prop := ∀ w ∈ W, w < 4096 ∧ w &&& K = 0
def encW (vn : Nat → Nat) (W : List Nat) : List Int32 := W.map (fun m => nI (mk vn m))
theorem encW_len (vn : Nat → Nat) (W : List Nat) : (encW vn W).length = W.length := List.length_map ..
theorem andn_or (w K m : Nat) : andn w m &&& K = 0 → andn w m &&& (K ||| m) = 0 := by
  intro h
  apply Nat.eq_of_testBit_eq
  intro i
  have h1 : (andn w m &&& K).testBit i = false := by rw [h]; exact Nat.zero_testBit i
  rw [Nat.testBit_and, andn_t] at h1
  rw [Nat.testBit_and, andn_t, Nat.testBit_or, Nat.zero_testBit]
  cases hw : w.testBit i <;> cases hm : m.testBit i <;> cases hK : K.testBit i <;> rw [hw, hm, hK] at h1 <;> first | rfl | (exact absurd h1 (by decide))
theorem sub_and {a b K : Nat} (h : b &&& K = 0) (hs : ∀ i, a.testBit i = true → b.testBit i = true) : a &&& K = 0 := by
  apply Nat.eq_of_testBit_eq
  intro i
  have h1 : (b &&& K).testBit i = false := by rw [h]; exact Nat.zero_testBit i
  rw [Nat.testBit_and] at h1
  rw [Nat.testBit_and, Nat.zero_testBit]
  cases ha : a.testBit i
  · rfl
  · rw [hs i ha] at h1
    rw [← h1]
theorem andn_sub {w m i : Nat} (h : (andn w m).testBit i = true) : w.testBit i = true := by
  rw [andn_t] at h
  cases q : w.testBit i
  · rw [q, Bool.false_and] at h; exact absurd h (by decide)
  · rfl
theorem knW_wOK {K m : Nat} {W : List Nat} (h : wOK K W) : wOK (K ||| m) (knW m W) := by
  intro w hw
  unfold knW at hw
  obtain ⟨x, hx, rfl⟩ := List.mem_map.mp hw
  exact ⟨andn_lt (h x hx).1, andn_or x K m (sub_and (h x hx).2 (fun i => andn_sub))⟩
theorem erW_wOK {K p : Nat} {W : List Nat} (h : wOK K W) : wOK K (W.eraseIdx p) := fun w hw => h w (List.mem_of_mem_eraseIdx hw)
theorem knW_0 {W : List Nat} : knW 0 W = W := by
  unfold knW
  rw [show (fun x => andn x 0) = id from by funext x; unfold andn; rw [Nat.and_zero, Nat.xor_zero]; rfl]
  exact List.map_id W
theorem map_lrn {vn : Nat → Nat} (hv : vOK vn) {K b : Nat} (hb : b < 12) : ∀ W : List Nat, wOK K W → (encW vn W).map (lrn (nI (mk vn (2 ^ b)))) = encW vn (knW (2 ^ b) W) := by
  intro W
  induction W with
  | nil => intro _; rfl
  | cons w W ih =>
    intro h
    show _ :: _ = _ :: _
    rw [lrn_mk hv (h w (List.mem_cons_self)).1 hb]
    congr 1
    exact ih (fun x hx => h x (List.mem_cons_of_mem _ hx))
theorem fshort_mk {vn : Nat → Nat} (hv : vOK vn) {K : Nat} : ∀ W : List Nat, wOK K W → fshort (encW vn W) = fsM W := by
  intro W
  unfold fshort fsM
  induction W with
  | nil => intro _; rfl
  | cons w W ih =>
    intro h
    show List.findIdx? isShort (nI (mk vn w) :: encW vn W) = _
    rw [List.findIdx?_cons, List.findIdx?_cons, ih (fun x hx => h x (List.mem_cons_of_mem _ hx))]
    have e : isShort (nI (mk vn w)) = decide (pc w < 2) := by
      unfold isShort
      rw [bcI_mk hv (h w List.mem_cons_self).1]
      have h2 := pc_le w
      refine decide_eq_decide.mpr ?_
      rw [show (2 : Int32) = nI 2 from rfl, nI_leI (by omega) (by omega)]
      omega
    rw [e]
theorem encW_getD {vn : Nat → Nat} {W : List Nat} {p : Nat} (h : p < W.length) : (encW vn W).getD p 0 = nI (mk vn (W.getD p 0)) := by
  unfold encW
  rw [List.getD_eq_getElem?_getD, List.getElem?_map, List.getElem?_eq_getElem h, getDN h]
  rfl
theorem encW_er {vn : Nat → Nat} : ∀ {W : List Nat} {p : Nat}, (encW vn W).eraseIdx p = encW vn (W.eraseIdx p) := by
  intro W
  induction W with
  | nil => intro p; rfl
  | cons w W ih =>
    intro p
    cases p with
    | zero => rfl
    | succ p =>
      show nI (mk vn w) :: (encW vn W).eraseIdx p = nI (mk vn w) :: encW vn (W.eraseIdx p)
      rw [ih]
theorem pcN_disj {a b : Nat} (h : a &&& b = 0) : ∀ i, pcN (a ||| b) i = pcN a i + pcN b i := by
  intro i
  induction i with
  | zero => rfl
  | succ i ih =>
    rw [pcN, pcN, pcN, ih, bN_t, bN_t, bN_t, Nat.testBit_or]
    have h1 : (a &&& b).testBit i = false := by rw [h]; exact Nat.zero_testBit i
    rw [Nat.testBit_and] at h1
    cases ha : a.testBit i <;> cases hb : b.testBit i <;> rw [ha, hb] at h1
    · show _ + 0 = _ + 0 + (_ + 0); omega
    · show _ + 1 = _ + 0 + (_ + 1); omega
    · show _ + 1 = _ + 1 + (_ + 0); omega
    · exact absurd h1 (by decide)
theorem pc_disj {a b : Nat} (h : a &&& b = 0) : pc (a ||| b) = pc a + pc b := pcN_disj h 12
theorem nI_diff (a b c : Nat) : (nI b - nI a) + (nI c - nI b) = nI c - nI a := by
  apply Int32.toBitVec_inj.mp
  show (BitVec.ofNat 32 b - BitVec.ofNat 32 a) + (BitVec.ofNat 32 c - BitVec.ofNat 32 b) = BitVec.ofNat 32 c - BitVec.ofNat 32 a
  generalize BitVec.ofNat 32 a = x
  generalize BitVec.ofNat 32 b = y
  generalize BitVec.ofNat 32 c = z
  bv_omega
theorem i_add_assoc (a b c : Int32) : a + b + c = a + (b + c) := Int32.add_assoc a b c
/-- one mix of less than two blocks is taken -/
theorem eat_mk {vn : Nat → Nat} (hv : vOK vn) {K m : Nat} {al : Nat → Int32} {W : List Nat} {tn fd : Int32} (hm : m < 4096) (hp : pc m < 2) (hd : m &&& K = 0) (ha : alR vn K al) (hW : wOK K W) (hK : K < 4096) :
    ∃ al', eatS (nI (mk vn m)) (nI K, al, encW vn W, tn, fd) = (nI (K ||| m), al', encW vn (knW m W), (if m = 0 then tn + 1 else tn), fd + (nI (pc (K ||| m)) - nI (pc K))) ∧ alR vn (K ||| m) al' := by
  by_cases h0 : m = 0
  · subst h0
    refine ⟨al, ?_, by rw [Nat.or_zero]; exact ha⟩
    rw [eatS_z (by rw [mk_0]; rfl), knW_0, Nat.or_zero, if_pos rfl]
    show (_, _, _, _, _) = (_, _, _, _, _)
    congr 4
    show fd = fd + (nI (pc K) - nI (pc K))
    rw [Int32.sub_self, Int32.add_zero]
  · have h1 : pc m = 1 := by
      rcases (show pc m = 0 ∨ pc m = 1 by omega) with h | h
      · exact absurd (pc_0 hm h) h0
      · exact h
    obtain ⟨b, hb, rfl⟩ := pc_1 hm h1
    refine ⟨lrnA (nI (mk vn (2 ^ b))) al, ?_, lrnA_mk hv ha hb⟩
    have hne : ¬ nI (mk vn (2 ^ b)) &&& 4095 = 0 := by
      rw [mkI_low hv hm]
      exact fun z => h0 ((nI_e0 (by omega)).mp z)
    rw [eatS_n hne, mkI_low hv hm, if_neg h0, map_lrn hv hb W hW, nI_or]
    show (_, _, _, _, _) = (_, _, _, _, _)
    congr 4
    rw [Nat.and_comm] at hd
    rw [pc_disj hd, h1]
    show fd + 1 = fd + (nI (pc K + 1) - nI (pc K))
    rw [pk_sub (by omega), Nat.add_sub_cancel_left]
    rfl
theorem getD_mem {W : List Nat} {p : Nat} (h : p < W.length) : W.getD p 0 ∈ W := by
  rw [getDN h]
  exact List.getElem_mem h
theorem fsM_pc {W : List Nat} {p : Nat} (h : fsM W = some p) : pc (W.getD p 0) < 2 := by
  obtain ⟨h1, h2, _⟩ := List.findIdx?_eq_some_iff_getElem.mp h
  rw [getDN h1]
  exact of_decide_eq_true h2
theorem peel_mk {vn : Nat → Nat} (hv : vOK vn) : ∀ (n m K : Nat) (al : Nat → Int32) (W : List Nat) (tn fd : Int32), m < 4096 → pc m < 2 → m &&& K = 0 → alR vn K al → wOK K W → K < 4096 →
    ∃ al', peelS n (nI (mk vn m)) (nI K, al, encW vn W, tn, fd) = (nI (plM n (K ||| m) (if m = 0 then tn + 1 else tn) (knW m W)).1, al', encW vn (plM n (K ||| m) (if m = 0 then tn + 1 else tn) (knW m W)).2.2, (plM n (K ||| m) (if m = 0 then tn + 1 else tn) (knW m W)).2.1, fd + (nI (pc (plM n (K ||| m) (if m = 0 then tn + 1 else tn) (knW m W)).1) - nI (pc K))) ∧ alR vn (plM n (K ||| m) (if m = 0 then tn + 1 else tn) (knW m W)).1 al' := by
  intro n
  induction n with
  | zero =>
    intro m K al W tn fd hm hp hd ha hW hK
    exact eat_mk hv hm hp hd ha hW hK
  | succ n ih =>
    intro m K al W tn fd hm hp hd ha hW hK
    obtain ⟨al1, e1, ha1⟩ := eat_mk (tn := tn) (fd := fd) hv hm hp hd ha hW hK
    have hW1 := knW_wOK (m := m) hW
    have hK1 := or_lt hK hm
    generalize (if m = 0 then tn + 1 else tn) = tn1 at e1 ⊢
    cases hf : fsM (knW m W) with
    | none =>
      rw [plM_none hf, peelS_none e1 (by show fshort (encW vn (knW m W)) = none; rw [fshort_mk hv _ hW1, hf])]
      exact ⟨al1, rfl, ha1⟩
    | some p =>
      have hl := fsM_lt hf
      have hmem := hW1 _ (getD_mem hl)
      rw [plM_some hf, peelS_some (p := p) e1 (by show fshort (encW vn (knW m W)) = some p; rw [fshort_mk hv _ hW1, hf])]
      obtain ⟨al2, e2, ha2⟩ := ih ((knW m W).getD p 0) (K ||| m) al1 ((knW m W).eraseIdx p) tn1 (fd + (nI (pc (K ||| m)) - nI (pc K))) hmem.1 (fsM_pc hf) hmem.2 ha1 (erW_wOK hW1) hK1
      refine ⟨al2, ?_, ha2⟩
      show peelS n ((encW vn (knW m W)).getD p 0) (nI (K ||| m), al1, (encW vn (knW m W)).eraseIdx p, tn1, fd + (nI (pc (K ||| m)) - nI (pc K))) = _
      rw [encW_getD hl, encW_er, e2]
      show (_, _, _, _, _) = (_, _, _, _, _)
      congr 4
      rw [i_add_assoc, nI_diff]
