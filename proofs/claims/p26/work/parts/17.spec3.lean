/-- what a receiver holds but whether it listens: known bits, single blocks, waiting, got, told nothing, lost -/
abbrev RS : Type := Int32 × (Nat → Int32) × List Int32 × Int32 × Int32 × Int32
def rcT (E : wE) (g : Nat → Nat) (li : Bool) (q : RS) (H : Heap) : Prop := rcP E g li q.1 q.2.1 q.2.2.1 q.2.2.2.1 q.2.2.2.2.1 q.2.2.2.2.2 H
def getS (x : Int32) (q : RS) : Int32 × RS :=
  if 2 ≤ bcI (leftOf q.2.1 x) then
    (if 24 ≤ q.2.2.1.length then (0, q.1, q.2.1, q.2.2.1, q.2.2.2.1 + 1, q.2.2.2.2.1, q.2.2.2.2.2 + 1)
     else (0, q.1, q.2.1, q.2.2.1 ++ [leftOf q.2.1 x], q.2.2.2.1 + 1, q.2.2.2.2.1, q.2.2.2.2.2))
  else
    ((peelS q.2.2.1.length (leftOf q.2.1 x) (q.1, q.2.1, q.2.2.1, q.2.2.2.2.1, 0)).2.2.2.2, (peelS q.2.2.1.length (leftOf q.2.1 x) (q.1, q.2.1, q.2.2.1, q.2.2.2.2.1, 0)).1, (peelS q.2.2.1.length (leftOf q.2.1 x) (q.1, q.2.1, q.2.2.1, q.2.2.2.2.1, 0)).2.1, (peelS q.2.2.1.length (leftOf q.2.1 x) (q.1, q.2.1, q.2.2.1, q.2.2.2.2.1, 0)).2.2.1, q.2.2.2.1 + 1, (peelS q.2.2.1.length (leftOf q.2.1 x) (q.1, q.2.1, q.2.2.1, q.2.2.2.2.1, 0)).2.2.2.1, q.2.2.2.2.2)
theorem getS_l {x : Int32} {q : RS} (h : 2 ≤ bcI (leftOf q.2.1 x)) (h2 : 24 ≤ q.2.2.1.length) : getS x q = (0, q.1, q.2.1, q.2.2.1, q.2.2.2.1 + 1, q.2.2.2.2.1, q.2.2.2.2.2 + 1) := by unfold getS; rw [if_pos h, if_pos h2]
theorem getS_w {x : Int32} {q : RS} (h : 2 ≤ bcI (leftOf q.2.1 x)) (h2 : ¬ 24 ≤ q.2.2.1.length) : getS x q = (0, q.1, q.2.1, q.2.2.1 ++ [leftOf q.2.1 x], q.2.2.2.1 + 1, q.2.2.2.2.1, q.2.2.2.2.2) := by unfold getS; rw [if_pos h, if_neg h2]
theorem getS_p {x : Int32} {q : RS} (h : ¬ 2 ≤ bcI (leftOf q.2.1 x)) : getS x q = ((peelS q.2.2.1.length (leftOf q.2.1 x) (q.1, q.2.1, q.2.2.1, q.2.2.2.2.1, 0)).2.2.2.2, (peelS q.2.2.1.length (leftOf q.2.1 x) (q.1, q.2.1, q.2.2.1, q.2.2.2.2.1, 0)).1, (peelS q.2.2.1.length (leftOf q.2.1 x) (q.1, q.2.1, q.2.2.1, q.2.2.2.2.1, 0)).2.1, (peelS q.2.2.1.length (leftOf q.2.1 x) (q.1, q.2.1, q.2.2.1, q.2.2.2.2.1, 0)).2.2.1, q.2.2.2.1 + 1, (peelS q.2.2.1.length (leftOf q.2.1 x) (q.1, q.2.1, q.2.2.1, q.2.2.2.2.1, 0)).2.2.2.1, q.2.2.2.2.2) := by unfold getS; rw [if_neg h]
theorem push_get {L : List Int32} {lf : Nat → Int32} {y : Int32} (h : ∀ j, j < L.length → lf j = L.getD j 0) : ∀ j, j < (L ++ [y]).length → upd lf L.length y j = (L ++ [y]).getD j 0 := by
  intro j hj
  rw [List.length_append, List.length_singleton] at hj
  rw [List.getD_eq_getElem?_getD]
  by_cases e : j = L.length
  · subst e
    rw [pk_us, List.getElem?_append_right (Nat.le_refl _), Nat.sub_self]
    rfl
  · rw [pk_un e, h j (by omega), List.getElem?_append_left (by omega), List.getD_eq_getElem?_getD]
/-- a row of 12 set to 0 up to the place i -/
def zrA (al : Nat → Int32) (i : Nat) : Nat → Int32 := fun b => if b < i then 0 else al b
theorem zrA_0 (al : Nat → Int32) : zrA al 0 = al := by
  funext b
  unfold zrA
  rw [if_neg (Nat.not_lt_zero b)]
theorem zrA_s (al : Nat → Int32) (i : Nat) : upd (zrA al i) i 0 = zrA al (i + 1) := by
  funext b
  by_cases e : b = i
  · subst e
    rw [pk_us]
    unfold zrA
    rw [if_pos (Nat.lt_succ_self b)]
  · rw [pk_un e]
    unfold zrA
    by_cases h2 : b < i
    · rw [if_pos h2, if_pos (Nat.lt_succ_of_lt h2)]
    · rw [if_neg h2, if_neg (show ¬ b < i + 1 by omega)]
/-- the elimination's two cells -/
def elF (E : wE) (g : Nat → Nat) (le : Nat → Int32) (ro : Int32) : Nat → va_E := fun k => match k with
  | 0 => .inr (0, [.ref (g 1), .int ro])
  | _ => .inl (E.2.1, 12, .inl le)
theorem el_ne0 {E : wE} {g : Nat → Nat} {le : Nat → Int32} {ro ro' : Int32} : ∀ j, j < 2 → j ≠ 0 → elF E g le ro' j = elF E g le ro j := by
  intro j _ h
  match j, h with
  | 0, h => exact absurd rfl h
  | _ + 1, _ => rfl
theorem el_ne1 {E : wE} {g : Nat → Nat} {le le' : Nat → Int32} {ro : Int32} : ∀ j, j < 2 → j ≠ 1 → elF E g le' ro j = elF E g le ro j := by
  intro j h3 h
  match j, h, h3 with
  | 0, _, _ => rfl
  | 1, h, _ => exact absurd rfl h
  | _ + 2, _, h3 => exact absurd h3 (by omega)
def lowI (x : Int32) : Int32 := swar ((x &&& -x) - 1)
def lowN (x : Int32) : Nat := (lowI x).toNatClampNeg
def clrA (r : Int32) (u : Nat) (le : Nat → Int32) (i : Nat) : Nat → Int32 := fun k => if k < i then (if hldI (le k) (nI u) = 0 then le k else le k ^^^ r) else le k
theorem clrA_0 (r : Int32) (u : Nat) (le : Nat → Int32) : clrA r u le 0 = le := by
  funext b
  unfold clrA
  rw [if_neg (Nat.not_lt_zero b)]
theorem clrA_at {r : Int32} {u : Nat} {le : Nat → Int32} {i : Nat} : clrA r u le i i = le i := by
  unfold clrA
  rw [if_neg (Nat.lt_irrefl i)]
theorem clrA_z {r : Int32} {u : Nat} {le : Nat → Int32} {i : Nat} (h : hldI (le i) (nI u) = 0) : clrA r u le i = clrA r u le (i + 1) := by
  funext b
  unfold clrA
  by_cases e : b = i
  · subst e
    rw [if_neg (Nat.lt_irrefl b), if_pos (Nat.lt_succ_self b), if_pos h]
  · by_cases h2 : b < i
    · rw [if_pos h2, if_pos (Nat.lt_succ_of_lt h2)]
    · rw [if_neg h2, if_neg (show ¬ b < i + 1 by omega)]
theorem clrA_y {r : Int32} {u : Nat} {le : Nat → Int32} {i : Nat} (h : ¬ hldI (le i) (nI u) = 0) : upd (clrA r u le i) i (le i ^^^ r) = clrA r u le (i + 1) := by
  funext b
  by_cases e : b = i
  · subst e
    rw [pk_us]
    unfold clrA
    rw [if_pos (Nat.lt_succ_self b), if_neg h]
  · rw [pk_un e]
    unfold clrA
    by_cases h2 : b < i
    · rw [if_pos h2, if_pos (Nat.lt_succ_of_lt h2)]
    · rw [if_neg h2, if_neg (show ¬ b < i + 1 by omega)]
abbrev ES : Type := (Nat → Int32) × Int32
def addS (x : Int32) (q : ES) : ES := if leftOf q.1 x &&& 4095 = 0 then q else (upd (clrA (leftOf q.1 x) (lowN (leftOf q.1 x)) q.1 12) (lowN (leftOf q.1 x)) (leftOf q.1 x), q.2 + 1)
def elP (E : wE) (g : Nat → Nat) (q : ES) (H : Heap) : Prop := wP E 2 g (elF E g q.1 q.2) H
/-- the lowest of the twelve bits -/
theorem and_split (a b c d : Nat) (ha : a < 4096) (hc : c < 4096) : (a + 4096 * b) &&& (c + 4096 * d) = (a &&& c) + 4096 * (b &&& d) := by
  have e : ∀ x y : Nat, x < 4096 → x + 4096 * y = y <<< 12 ||| x := by
    intro x y hx
    rw [← Nat.shiftLeft_add_eq_or_of_lt (show x < 2 ^ 12 by omega), Nat.shiftLeft_eq]
    omega
  have hac : a &&& c < 4096 := Nat.lt_of_le_of_lt Nat.and_le_left ha
  rw [e a b ha, e c d hc, e _ _ hac]
  apply Nat.eq_of_testBit_eq
  intro i
  simp only [Nat.testBit_and, Nat.testBit_or, Nat.testBit_shiftLeft]
  by_cases hi : 12 ≤ i
  · have hp : 4096 ≤ 2 ^ i := Nat.le_trans (show 4096 ≤ 2 ^ 12 by decide) (Nat.pow_le_pow_right (show 0 < 2 by decide) hi)
    have h1 : a.testBit i = false := Nat.testBit_lt_two_pow (Nat.lt_of_lt_of_le ha hp)
    have h2 : c.testBit i = false := Nat.testBit_lt_two_pow (Nat.lt_of_lt_of_le hc hp)
    simp [h1, h2, hi]
  · simp [hi]
theorem and_comp (b : Nat) (h : b < 2 ^ 20) : b &&& (2 ^ 20 - 1 - b) = 0 := by
  apply Nat.eq_of_testBit_eq
  intro i
  rw [Nat.testBit_and, show 2 ^ 20 - 1 - b = 2 ^ 20 - (b + 1) by omega, Nat.testBit_two_pow_sub_succ h]
  simp
  intro h1 _
  exact h1
theorem low_all2 : ∀ u, u < 64 → ∀ v, v < 64 → u * 64 + v = 0 ∨ (List.range 12).any (fun j => decide (swar (nI (((u * 64 + v) &&& (4096 - (u * 64 + v))) - 1)) = nI j)) = true := by decide +kernel
theorem low_all {a : Nat} (h : a < 4096) : a = 0 ∨ (List.range 12).any (fun j => decide (swar (nI ((a &&& (4096 - a)) - 1)) = nI j)) = true := by
  have h1 := low_all2 (a / 64) (by omega) (a % 64) (by omega)
  rw [show a / 64 * 64 + a % 64 = a by omega] at h1
  exact h1
theorem low_ne2 : ∀ u, u < 64 → ∀ v, v < 64 → u * 64 + v ≠ 0 → ((u * 64 + v) &&& (4096 - (u * 64 + v))) ≠ 0 := by decide +kernel
theorem low_ne {a : Nat} (h : a < 4096) (h0 : a ≠ 0) : (a &&& (4096 - a)) ≠ 0 := by
  have h1 := low_ne2 (a / 64) (by omega) (a % 64) (by omega)
  rw [show a / 64 * 64 + a % 64 = a by omega] at h1
  exact h1 h0
theorem nI_neg {n : Nat} (h : n < 2 ^ 32) : -nI n = nI (2 ^ 32 - n) := by
  apply Int32.toBitVec_inj.mp
  show -(BitVec.ofNat 32 n) = BitVec.ofNat 32 (2 ^ 32 - n)
  apply BitVec.eq_of_toNat_eq
  rw [BitVec.toNat_neg, BitVec.toNat_ofNat, BitVec.toNat_ofNat, Nat.mod_eq_of_lt h]
theorem lowI_in {x : Int32} (h : ¬ x &&& 4095 = 0) : ∃ j, j < 12 ∧ lowI x = nI j ∧ lowN x = j := by
  have hx : x = nI x.toBitVec.toNat := by
    apply Int32.toBitVec_inj.mp
    show x.toBitVec = BitVec.ofNat 32 x.toBitVec.toNat
    rw [BitVec.ofNat_toNat]
    exact (BitVec.setWidth_eq _).symm
  have hn : x.toBitVec.toNat < 2 ^ 32 := x.toBitVec.isLt
  generalize x.toBitVec.toNat = n at hx hn
  subst hx
  have h2 : ¬ n % 4096 = 0 := by
    intro e
    apply h
    rw [pk_andN hn 12 (by decide), show (2 : Nat) ^ 12 = 4096 from rfl, e]
    rfl
  have h4 : (nI n &&& -nI n) = nI ((n % 4096) &&& (4096 - n % 4096)) := by
    rw [nI_neg hn]
    have e3 : nI n &&& nI (2 ^ 32 - n) = nI (n &&& (2 ^ 32 - n)) := by
      apply Int32.toBitVec_inj.mp
      show BitVec.ofNat 32 n &&& BitVec.ofNat 32 (2 ^ 32 - n) = BitVec.ofNat 32 (n &&& (2 ^ 32 - n))
      rw [BitVec.ofNat_and]
    rw [e3]
    congr 1
    have e1 : n = n % 4096 + 4096 * (n / 4096) := (Nat.mod_add_div n 4096).symm
    have e2 : 2 ^ 32 - n = (4096 - n % 4096) + 4096 * (2 ^ 20 - 1 - n / 4096) := by omega
    rw [e2]
    conv => lhs; lhs; rw [e1]
    rw [and_split _ _ _ _ (by omega) (by omega), and_comp _ (by omega)]
    omega
  have h5 : 0 < (n % 4096) &&& (4096 - n % 4096) := by
    rcases Nat.eq_zero_or_pos ((n % 4096) &&& (4096 - n % 4096)) with q | q
    · exfalso
      exact low_ne (show n % 4096 < 4096 by omega) h2 q
    · exact q
  rcases low_all (show n % 4096 < 4096 by omega) with q | q
  · exact absurd q h2
  · obtain ⟨j, hj, e⟩ := List.any_eq_true.mp q
    have e := of_decide_eq_true e
    have hj := List.mem_range.mp hj
    refine ⟨j, hj, ?_, ?_⟩
    · unfold lowI
      rw [h4, show (1 : Int32) = nI 1 from rfl, pk_sub h5]
      exact e
    · unfold lowN lowI
      rw [h4, show (1 : Int32) = nI 1 from rfl, pk_sub h5, e]
      exact nI_clamp (by omega)
/-- a row's cell is told by what stands in its places -/
theorem cell_cg {E : wE} {a z : Nat} {x y : Nat → Int32} {H : Heap} (h : va_at E.1 vwCl (a, .inl (E.2.1, z, .inl x)) H) (e : ∀ j, j < z → x j = y j) : va_at E.1 vwCl (a, .inl (E.2.1, z, .inl y)) H := by
  have h1 : H[a]? = some (vp_cell E.2.1 (z, .inl x)) := h
  show H[a]? = some (vp_cell E.2.1 (z, .inl y))
  rw [h1, vp_cell_i, vp_cell_i]
  unfold arrV
  congr 2
  apply Array.ext
  · simp
  · intro i h1 h2
    simp at h1 h2 ⊢
    exact e i h1
theorem rcF_al {E : wE} {g : Nat → Nat} {li : Bool} {kb : Int32} {al al' lf : Nat → Int32} {wa : Nat} {go tn lo : Int32} {H : Heap} (h : wP E 3 g (rcF E g li kb al lf wa go tn lo) H) (e : ∀ j, j < 12 → al j = al' j) : wP E 3 g (rcF E g li kb al' lf wa go tn lo) H := by
  refine wP_at.mpr fun k hk => ?_
  have h1 := wP_at.mp h k hk
  match k, hk with
  | 0, _ => exact h1
  | 1, _ => exact cell_cg h1 e
  | 2, _ => exact h1
  | _ + 3, hk => exact absurd hk (by omega)
theorem elF_le {E : wE} {g : Nat → Nat} {le le' : Nat → Int32} {ro : Int32} {H : Heap} (h : wP E 2 g (elF E g le ro) H) (e : ∀ j, j < 12 → le j = le' j) : wP E 2 g (elF E g le' ro) H := by
  refine wP_at.mpr fun k hk => ?_
  have h1 := wP_at.mp h k hk
  match k, hk with
  | 0, _ => exact h1
  | 1, _ => exact cell_cg h1 e
  | _ + 2, hk => exact absurd hk (by omega)
theorem zrA_in {al : Nat → Int32} {j : Nat} (h : j < 12) : zrA al 12 j = (fun _ => (0 : Int32)) j := if_pos h
