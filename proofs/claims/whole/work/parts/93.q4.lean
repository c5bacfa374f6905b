/-! texts: the class takes a code at a time, the reference a part at a time -/
theorem gw9_le : ∀ n b, gw9 n b < 10 ^ n * (b + 1) := by
  intro n
  induction n with
  | zero => intro b; show b < 1 * (b + 1); omega
  | succ n ih =>
    intro b
    have := ih (b * 10 + 9)
    show gw9 n (b * 10 + 9) < _
    rw [Nat.pow_succ]
    have e : 10 ^ n * (b * 10 + 9 + 1) = 10 ^ n * 10 * (b + 1) := by rw [Nat.mul_assoc]; congr 1; omega
    omega
theorem grN_le {b d : Nat} (hd : d ≤ 4) (hb : b + 1 ≤ 10 ^ d) : grN b d ≤ 9999 := by
  unfold grN
  split
  · decide
  · have h1 := gw9_le (4 - d) b
    have h2 : 10 ^ (4 - d) * (b + 1) ≤ 10 ^ (4 - d) * 10 ^ d := Nat.mul_le_mul_left _ hb
    rw [← Nat.pow_add, show 4 - d + d = 4 by omega] at h2
    have h3 : (10 : Nat) ^ 4 = 10000 := by decide
    omega
/-- the first number of the part, or none -/
def leR (f : Int32) (le : Nat) : Prop := (f = -1 ∧ le = 0) ∨ (f = nI le ∧ le ≤ 9999)
theorem leR_le {f : Int32} {le x : Nat} (h : leR f le) (hx : x ≤ 9999) : f ≤ nI x ↔ ¬ nI x < nI le := by
  rcases h with ⟨h1, h2⟩ | ⟨h1, h2⟩
  · subst h1 h2
    refine ⟨fun _ z => ?_, fun _ => ?_⟩
    · exact absurd ((nI_ltI (by omega) (by omega)).mp z) (by omega)
    · refine Int32.le_trans (b := nI 0) (by decide) ?_
      exact (nI_leI (by omega) (by omega)).mpr (Nat.zero_le x)
  · subst h1
    rw [Int32.not_lt]
theorem leR_lt {f : Int32} {le x : Nat} (h : leR f le) (hx : x ≤ 9999) : nI x < f ↔ x < le := by
  rw [← Int32.not_le, leR_le h hx, Classical.not_not, nI_ltI (by omega) (by rcases h with ⟨_, h⟩ | ⟨_, h⟩ <;> omega)]
theorem tkS_dig {q : PA} {k : Nat} (h : 48 ≤ k ∧ k ≤ 57) : tkS q k = tkD q (k - 48) := if_pos h
theorem tkS_45 (q : PA) : tkS q 45 = if 0 < q.2.2 ∧ q.1 = -1 then (true, nI q.2.1, 0, 0) else (false, q) := by
  unfold tkS
  rw [if_neg (by omega), if_pos rfl]
theorem tkS_44 (q : PA) : tkS q 44 = if cmI q = true then (true, -1, 0, 0) else (false, q) := by
  unfold tkS
  rw [if_neg (by omega), if_neg (by omega), if_pos rfl]
theorem tkS_no {q : PA} {k : Nat} (h1 : ¬ (48 ≤ k ∧ k ≤ 57)) (h2 : ¬ k = 45) (h3 : ¬ k = 44) : tkS q k = (false, q) := by
  unfold tkS
  rw [if_neg h1, if_neg h2, if_neg h3]
theorem feS_y {cd : Nat → Nat} {ln i : Nat} {q q2 : PA} (hi : i < ln) (h : tkS q (cd i) = (true, q2)) : feS cd (ln - i) i q = feS cd (ln - (i + 1)) (i + 1) q2 := by
  rw [show ln - i = ln - (i + 1) + 1 by omega, feS, h, if_pos rfl]
theorem feS_n {cd : Nat → Nat} {ln i : Nat} {q : PA} (hi : i < ln) (h : (tkS q (cd i)).1 = false) : (feS cd (ln - i) i q).1 = i := by
  rw [show ln - i = ln - (i + 1) + 1 by omega, feS, if_neg (by rw [h]; decide)]
theorem saS_n {cd : Nat → Nat} {ln i n : Nat} {q q2 : PA} {z : SS} (hi : i < ln) (h : tkS q (cd i) = (true, q2)) (h2 : ¬ cd i = 44) : saS cd (ln - i) i (n, q, z) = saS cd (ln - (i + 1)) (i + 1) (n, q2, z) := by
  rw [show ln - i = ln - (i + 1) + 1 by omega, saS, if_neg h2]
  show saS cd _ _ (n, (tkS q (cd i)).2, z) = _
  rw [h]
theorem saS_c {cd : Nat → Nat} {ln i n : Nat} {q q2 : PA} {z : SS} (hi : i < ln) (h : tkS q (cd i) = (true, q2)) (h2 : cd i = 44) : saS cd (ln - i) i (n, q, z) = saS cd (ln - (i + 1)) (i + 1) ((saE (n, q, z)).1, q2, (saE (n, q, z)).2.2) := by
  rw [show ln - i = ln - (i + 1) + 1 by omega, saS, if_pos h2]
  show saS cd _ _ (_, (tkS q (cd i)).2, _) = _
  rw [h]
/-- the class comes from one place and part to another -/
def goes (cd : Nat → Nat) (ln i : Nat) (q : PA) (i2 : Nat) (q2 : PA) : Prop := feS cd (ln - i) i q = feS cd (ln - i2) i2 q2 ∧ ∀ n z, saS cd (ln - i) i (n, q, z) = saS cd (ln - i2) i2 (n, q2, z)
theorem goes.tr {cd : Nat → Nat} {ln i i2 i3 : Nat} {q q2 q3 : PA} (h : goes cd ln i q i2 q2) (h2 : goes cd ln i2 q2 i3 q3) : goes cd ln i q i3 q3 := ⟨h.1.trans h2.1, fun n z => (h.2 n z).trans (h2.2 n z)⟩
theorem goes.rfl {cd : Nat → Nat} {ln i : Nat} {q : PA} : goes cd ln i q i q := ⟨Eq.refl _, fun _ _ => Eq.refl _⟩
theorem goes.one {cd : Nat → Nat} {ln i : Nat} {q q2 : PA} (hi : i < ln) (h : tkS q (cd i) = (true, q2)) (h2 : ¬ cd i = 44) : goes cd ln i q (i + 1) q2 := ⟨feS_y hi h, fun _ _ => saS_n hi h h2⟩
theorem nu_step {cd : Nat → Nat} {ln le ai v d : Nat} {f : Int32} (hf : leR f le) (hv : v + 1 ≤ 10 ^ d) (h4 : d ≤ 4) : nuO cd ln le ai v d = decide (ai < ln ∧ (48 ≤ cd ai ∧ cd ai ≤ 57) ∧ (tkD (f, v, d) (cd ai - 48)).1 = true) := by
  unfold nuO
  refine decide_eq_decide.mpr ?_
  constructor
  · rintro ⟨h1, h2, h3, h5, h6⟩
    refine ⟨h1, h2, ?_⟩
    have hg := grN_le (b := v * 10 + (cd ai - 48)) (d := d + 1) (by omega) (by rw [Nat.pow_succ]; omega)
    rw [show 10 * v + cd ai - 48 = v * 10 + (cd ai - 48) by omega] at h6
    rw [tkD_y (q := (f, v, d)) (by show ¬ (0 < d ∧ v = 0); omega) (by show ¬ 4 ≤ d; omega) ((leR_le hf hg).mpr h6)]
  · rintro ⟨h1, h2, h3⟩
    by_cases c1 : 0 < d ∧ v = 0
    · rw [tkD_lz (q := (f, v, d)) c1] at h3; exact Bool.noConfusion (show false = true from h3)
    by_cases c2 : 4 ≤ d
    · rw [tkD_4 (q := (f, v, d)) c2] at h3; exact Bool.noConfusion (show false = true from h3)
    have hg := grN_le (b := v * 10 + (cd ai - 48)) (d := d + 1) (by omega) (by rw [Nat.pow_succ]; omega)
    by_cases c3 : f ≤ nI (grN (v * 10 + (cd ai - 48)) (d + 1))
    · refine ⟨h1, h2, by omega, by omega, ?_⟩
      rw [show 10 * v + cd ai - 48 = v * 10 + (cd ai - 48) by omega]
      exact (leR_le hf hg).mp c3
    · rw [tkD_g (q := (f, v, d)) c3] at h3; exact Bool.noConfusion (show false = true from h3)
/-- a number -/
theorem nu_go {cd : Nat → Nat} {ln le : Nat} {f : Int32} (hf : leR f le) : ∀ k ai v d, d + k = 4 → v + 1 ≤ 10 ^ d → ai ≤ ln →
    goes cd ln ai (f, v, d) (nuS cd ln le k ai v d).1 (f, (nuS cd ln le k ai v d).2) ∧ (nuS cd ln le k ai v d).1 ≤ ln ∧ ai ≤ (nuS cd ln le k ai v d).1 ∧ (nuS cd ln le k ai v d).2.2 ≤ 4 ∧ (nuS cd ln le k ai v d).2.1 + 1 ≤ 10 ^ (nuS cd ln le k ai v d).2.2 ∧
    ((nuS cd ln le k ai v d).1 < ln → 48 ≤ cd (nuS cd ln le k ai v d).1 ∧ cd (nuS cd ln le k ai v d).1 ≤ 57 → (tkD (f, (nuS cd ln le k ai v d).2) (cd (nuS cd ln le k ai v d).1 - 48)).1 = false) := by
  intro k
  induction k with
  | zero =>
    intro ai v d h1 h2 h3
    exact ⟨goes.rfl, h3, Nat.le_refl _, by show d ≤ 4; omega, h2, fun _ _ => by show (tkD (f, v, d) _).1 = false; rw [tkD_4 (q := (f, v, d)) (by show 4 ≤ d; omega)]⟩
  | succ k ih =>
    intro ai v d h1 h2 h3
    have hs := nu_step (cd := cd) (ln := ln) (ai := ai) hf h2 (by omega)
    cases h : nuO cd ln le ai v d
    · rw [nuS_n h]
      refine ⟨goes.rfl, h3, Nat.le_refl _, by show d ≤ 4; omega, h2, fun g1 g2 => ?_⟩
      rw [h] at hs
      have h8 := of_decide_eq_false hs.symm
      show (tkD (f, v, d) (cd ai - 48)).1 = false
      cases h9 : (tkD (f, v, d) (cd ai - 48)).1
      · rfl
      · exact absurd ⟨g1, g2, h9⟩ h8
    · rw [nuS_y h]
      rw [h] at hs
      obtain ⟨g1, g2, g3⟩ := of_decide_eq_true hs.symm
      have ht : tkS (f, v, d) (cd ai) = (true, f, 10 * v + cd ai - 48, d + 1) := by
        rw [tkS_dig g2]
        by_cases c1 : 0 < d ∧ v = 0
        · rw [tkD_lz (q := (f, v, d)) c1] at g3; exact Bool.noConfusion (show false = true from g3)
        by_cases c2 : 4 ≤ d
        · rw [tkD_4 (q := (f, v, d)) c2] at g3; exact Bool.noConfusion (show false = true from g3)
        by_cases c3 : f ≤ nI (grN (v * 10 + (cd ai - 48)) (d + 1))
        · rw [tkD_y (q := (f, v, d)) c1 c2 c3]
          show (true, f, v * 10 + (cd ai - 48), d + 1) = _
          rw [show 10 * v + cd ai - 48 = v * 10 + (cd ai - 48) by omega]
        · rw [tkD_g (q := (f, v, d)) c3] at g3; exact Bool.noConfusion (show false = true from g3)
      obtain ⟨i1, i2, i3, i4, i5, i6⟩ := ih (ai + 1) (10 * v + cd ai - 48) (d + 1) (by omega) (by rw [Nat.pow_succ]; omega) (by omega)
      exact ⟨(goes.one g1 ht (by omega)).tr i1, i2, by omega, i4, i5, i6⟩
/-- a part -/
theorem it_go {cd : Nat → Nat} {ln ai : Nat} (hai : ai ≤ ln) : ∃ q : PA, goes cd ln ai (-1, 0, 0) (itA cd ln ai).1 q ∧ (itA cd ln ai).1 ≤ ln ∧ ai ≤ (itA cd ln ai).1 ∧ fmN q = (itA cd ln ai).2.1 ∧ q.2.1 = (itA cd ln ai).2.2.1 ∧ cmI q = !(itA cd ln ai).2.2.2 ∧ ((itA cd ln ai).1 < ln → ¬ cd (itA cd ln ai).1 = 44 → (tkS q (cd (itA cd ln ai).1)).1 = false) := by
  have hl0 : leR (-1) 0 := Or.inl ⟨rfl, rfl⟩
  obtain ⟨g1, g2, g3, g4, g5, g6⟩ := nu_go (cd := cd) (ln := ln) hl0 4 ai 0 0 rfl (by decide) hai
  have hw : ∀ (f : Int32) (le : Nat) (R : Nat × Nat × Nat), leR f le → R.2.1 ≤ 9999 → cmI (f, R.2) = !(nuW le R) := by
    intro f le R hl h9
    unfold cmI nuW
    show decide (0 < R.2.2 ∧ ¬ nI R.2.1 < f) = !decide (R.2.2 = 0 ∨ R.2.1 < le)
    rw [← decide_not]
    refine decide_eq_decide.mpr ?_
    rw [leR_lt hl h9]
    omega
  have h9 : (nuS cd ln 0 4 ai 0 0).2.1 ≤ 9999 := by
    have h4 : (10 : Nat) ^ (nuS cd ln 0 4 ai 0 0).2.2 ≤ 10 ^ 4 := Nat.pow_le_pow_right (by decide) g4
    have h5 : (10 : Nat) ^ 4 = 10000 := by decide
    omega
  have hc1 := hw (-1) 0 (nuS cd ln 0 4 ai 0 0) hl0 h9
  by_cases hc : nuW 0 (nuS cd ln 0 4 ai 0 0) = false ∧ (nuS cd ln 0 4 ai 0 0).1 < ln ∧ cd (nuS cd ln 0 4 ai 0 0).1 = 45
  · rw [itA_y hc.1 hc.2.1 hc.2.2]
    generalize nuS cd ln 0 4 ai 0 0 = R at g1 g2 g3 g4 g5 g6 h9 hc1 hc ⊢
    obtain ⟨b, v, d⟩ := R
    have hd0 : 0 < d := by
      have := of_decide_eq_false hc.1
      have h1 : ¬ (d = 0 ∨ v < 0) := this
      omega
    have ht : tkS (-1, v, d) (cd b) = (true, nI v, 0, 0) := by
      rw [show cd b = 45 from hc.2.2, tkS_45, if_pos ⟨hd0, rfl⟩]
    have hl1 : leR (nI v) v := Or.inr ⟨rfl, h9⟩
    obtain ⟨k1, k2, k3, k4, k5, k6⟩ := nu_go (cd := cd) (ln := ln) hl1 4 (b + 1) 0 0 rfl (by decide) hc.2.1
    have h8 : (nuS cd ln v 4 (b + 1) 0 0).2.1 ≤ 9999 := by
      have h4 : (10 : Nat) ^ (nuS cd ln v 4 (b + 1) 0 0).2.2 ≤ 10 ^ 4 := Nat.pow_le_pow_right (by decide) k4
      have h5 : (10 : Nat) ^ 4 = 10000 := by decide
      omega
    have hc2 := hw (nI v) v (nuS cd ln v 4 (b + 1) 0 0) hl1 h8
    show ∃ q : PA, goes cd ln ai (-1, 0, 0) (nuS cd ln v 4 (b + 1) 0 0).1 q ∧ (nuS cd ln v 4 (b + 1) 0 0).1 ≤ ln ∧ ai ≤ (nuS cd ln v 4 (b + 1) 0 0).1 ∧ fmN q = v ∧ q.2.1 = (nuS cd ln v 4 (b + 1) 0 0).2.1 ∧ cmI q = !nuW v (nuS cd ln v 4 (b + 1) 0 0) ∧ ((nuS cd ln v 4 (b + 1) 0 0).1 < ln → ¬ cd (nuS cd ln v 4 (b + 1) 0 0).1 = 44 → (tkS q (cd (nuS cd ln v 4 (b + 1) 0 0).1)).1 = false)
    generalize nuS cd ln v 4 (b + 1) 0 0 = R2 at k1 k2 k3 k4 k5 k6 h8 hc2 ⊢
    obtain ⟨b2, v2, d2⟩ := R2
    have g1 : goes cd ln ai (-1, 0, 0) b (-1, v, d) := g1
    have g3 : ai ≤ b := g3
    have k3 : b + 1 ≤ b2 := k3
    have hb : b < ln := hc.2.1
    have hb45 : cd b = 45 := hc.2.2
    have hne : nI v ≠ -1 := by
      rcases hl1 with ⟨h1, _⟩ | _
      · intro z
        have h7 := congrArg Int32.toInt z
        rw [nI_toInt (by omega)] at h7
        have h6 : (-1 : Int32).toInt = -1 := by decide
        rw [h6] at h7
        omega
      · intro z
        have h7 := congrArg Int32.toInt z
        rw [nI_toInt (by omega)] at h7
        have h6 : (-1 : Int32).toInt = -1 := by decide
        rw [h6] at h7
        omega
    refine ⟨(nI v, v2, d2), (g1.tr (goes.one hb ht (by omega))).tr k1, k2, by show ai ≤ b2; omega, ?_, rfl, hc2, fun h1 h2 => ?_⟩
    · unfold fmN
      rw [if_neg hne]
      have h9 : v ≤ 9999 := h9
      exact nI_clamp (by omega)
    · show (tkS (nI v, v2, d2) (cd b2)).1 = false
      by_cases c1 : 48 ≤ cd b2 ∧ cd b2 ≤ 57
      · rw [tkS_dig c1]; exact k6 h1 c1
      by_cases c2 : cd b2 = 45
      · rw [c2, tkS_45, if_neg (fun z => hne z.2)]
      rw [tkS_no c1 c2 h2]
  · rw [itA_n hc]
    generalize nuS cd ln 0 4 ai 0 0 = R at g1 g2 g3 g4 g5 g6 h9 hc1 hc ⊢
    obtain ⟨b, v, d⟩ := R
    refine ⟨(-1, v, d), g1, g2, g3, ?_, rfl, hc1, fun h1 h2 => ?_⟩
    · unfold fmN
      rw [if_pos rfl]
    · show (tkS (-1, v, d) (cd b)).1 = false
      by_cases c1 : 48 ≤ cd b ∧ cd b ≤ 57
      · rw [tkS_dig c1]; exact g6 h1 c1
      by_cases c2 : cd b = 45
      · rw [c2, tkS_45]
        by_cases c3 : 0 < d
        · exfalso
          refine hc ⟨?_, h1, c2⟩
          refine decide_eq_false ?_
          show ¬ (d = 0 ∨ v < 0)
          omega
        · rw [if_neg (fun z => c3 z.1)]
      rw [tkS_no c1 c2 h2]
/-- the whole text: where it is wrong -/
theorem go_err {cd : Nat → Nat} {ln nb : Nat} {el : Bool} : ∀ k ai mn y, ai ≤ ln → ln - ai < k →
    ((goM cd ln nb el k ai mn y).1 = false → (feS cd (ln - ai) ai (-1, 0, 0)).1 = ln ∧ cmI (feS cd (ln - ai) ai (-1, 0, 0)).2 = true) ∧
    ((goM cd ln nb el k ai mn y).1 = true → (feS cd (ln - ai) ai (-1, 0, 0)).1 = (goM cd ln nb el k ai mn y).2.1 ∧ ((feS cd (ln - ai) ai (-1, 0, 0)).1 = ln → cmI (feS cd (ln - ai) ai (-1, 0, 0)).2 = false)) := by
  intro k
  induction k with
  | zero => intro ai mn y h1 h2; exact absurd h2 (Nat.not_lt_zero _)
  | succ k ih =>
    intro ai mn y h1 h2
    obtain ⟨q, g1, g2, g3, g4, g5, g6, g7⟩ := it_go (cd := cd) h1
    rw [g1.1]
    generalize hR : itA cd ln ai = R at g1 g2 g3 g4 g5 g6 g7 ⊢
    obtain ⟨a, fi, la, w⟩ := R
    have g2 : a ≤ ln := g2
    have g3 : ai ≤ a := g3
    have g6 : cmI q = !w := g6
    have g7 : a < ln → ¬ cd a = 44 → (tkS q (cd a)).1 = false := g7
    show ((goM cd ln nb el (k + 1) ai mn y).1 = false → (feS cd (ln - a) a q).1 = ln ∧ cmI (feS cd (ln - a) a q).2 = true) ∧ ((goM cd ln nb el (k + 1) ai mn y).1 = true → (feS cd (ln - a) a q).1 = (goM cd ln nb el (k + 1) ai mn y).2.1 ∧ ((feS cd (ln - a) a q).1 = ln → cmI (feS cd (ln - a) a q).2 = false))
    by_cases hl : a < ln
    · by_cases h44 : cd a = 44
      · cases w
        · have ht : tkS q (cd a) = (true, -1, 0, 0) := by
            rw [h44, tkS_44, if_pos (by rw [g6]; rfl)]
          rw [goM_c hR rfl hl h44, feS_y hl ht]
          exact ih (a + 1) _ _ (by omega) (by omega)
        · have ht : (tkS q (cd a)).1 = false := by
            rw [h44, tkS_44, if_neg (by rw [g6]; decide)]
          rw [goM_e hR (Or.inl rfl)]
          have hf := feS_n (cd := cd) hl ht
          exact ⟨fun z => Bool.noConfusion (show true = false from z), fun _ => ⟨hf, fun z => absurd (hf.symm.trans z) (by omega)⟩⟩
      · have hf := feS_n (cd := cd) hl (g7 hl h44)
        cases w
        · rw [goM_w hR rfl hl h44]
          exact ⟨fun z => Bool.noConfusion (show true = false from z), fun _ => ⟨hf, fun z => absurd (hf.symm.trans z) (by omega)⟩⟩
        · rw [goM_e hR (Or.inl rfl)]
          exact ⟨fun z => Bool.noConfusion (show true = false from z), fun _ => ⟨hf, fun z => absurd (hf.symm.trans z) (by omega)⟩⟩
    · have e : a = ln := by omega
      rw [goM_e hR (Or.inr hl), e, Nat.sub_self]
      show (w = false → ln = ln ∧ cmI q = true) ∧ (w = true → ln = ln ∧ (ln = ln → cmI q = false))
      exact ⟨fun z => ⟨rfl, by rw [g6, z]; rfl⟩, fun z => ⟨rfl, fun _ => by rw [g6, z]; rfl⟩⟩
theorem t_err {cd : Nat → Nat} {ln nb : Nat} {y : YS} : (feT cd ln).1 = (if (goM cd ln nb false (ln + 1) 0 0 y).1 = true then (goM cd ln nb false (ln + 1) 0 0 y).2.1 else ln) ∧ ctS cd ln = !(goM cd ln nb false (ln + 1) 0 0 y).1 := by
  obtain ⟨h1, h2⟩ := go_err (cd := cd) (ln := ln) (nb := nb) (el := false) (ln + 1) 0 0 y (Nat.zero_le _) (by omega)
  rw [Nat.sub_zero] at h1 h2
  unfold ctS
  cases h : (goM cd ln nb false (ln + 1) 0 0 y).1
  · obtain ⟨k1, k2⟩ := h1 h
    rw [if_neg (by decide)]
    exact ⟨k1, decide_eq_true ⟨k1, k2⟩⟩
  · obtain ⟨k1, k2⟩ := h2 h
    rw [if_pos rfl]
    refine ⟨k1, decide_eq_false fun z => ?_⟩
    rw [k2 z.1] at z
    exact Bool.noConfusion z.2
/-- sending the parts -/
theorem spz_mk {nb : Nat} {va : Nat → Int32} : ∀ (n m B : Nat) (z : SS) (y : YS), RZ B z (nb, va, y.1, y.2) → RZ (B + n) (spZ n m z) (nb, va, (spM nb n m y).1, (spM nb n m y).2) := by
  intro n
  induction n with
  | zero => intro m B z y h; exact h
  | succ n ih =>
    intro m B z y h
    have := ih (m + 1) (B + 1) (sendZ z m) (sdM nb m y) (send_mk h m).1
    rw [show B + (n + 1) = B + 1 + n by omega]
    exact this
theorem go_send {cd : Nat → Nat} {ln nb B0 : Nat} {va : Nat → Int32} : ∀ k ai mn y z, ai ≤ ln → ln - ai < k → mn ≤ 100 → RZ (B0 + mn) z (nb, va, y.1, y.2) → (goM cd ln nb true k ai mn y).1 = false →
    (saE (saS cd (ln - ai) ai (mn, (-1, 0, 0), z))).1 = (goM cd ln nb true k ai mn y).2.2.1 ∧ (goM cd ln nb true k ai mn y).2.2.1 ≤ 100 ∧ RZ (B0 + (goM cd ln nb true k ai mn y).2.2.1) (saE (saS cd (ln - ai) ai (mn, (-1, 0, 0), z))).2.2 (nb, va, (goM cd ln nb true k ai mn y).2.2.2.1, (goM cd ln nb true k ai mn y).2.2.2.2) := by
  intro k
  induction k with
  | zero => intro ai mn y z h1 h2; exact absurd h2 (Nat.not_lt_zero _)
  | succ k ih =>
    intro ai mn y z h1 h2 h3 hz hw
    obtain ⟨q, g1, g2, g3, g4, g5, g6, g7⟩ := it_go (cd := cd) h1
    rw [g1.2]
    generalize hR : itA cd ln ai = R at g1 g2 g3 g4 g5 g6 g7 ⊢
    obtain ⟨a, fi, la, w⟩ := R
    have g2 : a ≤ ln := g2
    have g3 : ai ≤ a := g3
    have g4 : fmN q = fi := g4
    have g5 : q.2.1 = la := g5
    have g6 : cmI q = !w := g6
    have en : spN q (100 - mn) = snN true fi la (100 - mn) := by
      unfold spN snN
      rw [if_pos rfl, g4, g5]
    obtain ⟨_, _, h8⟩ := snN_t fi la mn h3
    have hs := spz_mk (snN true fi la (100 - mn)) fi (B0 + mn) z y hz
    rw [Nat.add_assoc] at hs
    have eE : saE (mn, q, z) = (mn + snN true fi la (100 - mn), q, spZ (snN true fi la (100 - mn)) fi z) := by
      unfold saE
      rw [show spN (mn, q, z).2.1 (100 - (mn, q, z).1) = snN true fi la (100 - mn) from en, show fmN (mn, q, z).2.1 = fi from g4]
    show (saE (saS cd (ln - a) a (mn, q, z))).1 = _ ∧ _
    by_cases hl : a < ln
    · by_cases h44 : cd a = 44
      · cases w
        · have ht : tkS q (cd a) = (true, -1, 0, 0) := by
            rw [h44, tkS_44, if_pos (by rw [g6]; rfl)]
          rw [goM_c hR rfl hl h44] at hw ⊢
          rw [saS_c hl ht h44, eE]
          exact ih (a + 1) _ _ _ (by omega) (by omega) h8 hs hw
        · rw [goM_e hR (Or.inl rfl)] at hw
          exact Bool.noConfusion (show true = false from hw)
      · cases w
        · rw [goM_w hR rfl hl h44] at hw
          exact Bool.noConfusion (show true = false from hw)
        · rw [goM_e hR (Or.inl rfl)] at hw
          exact Bool.noConfusion (show true = false from hw)
    · have e : a = ln := by omega
      rw [goM_e hR (Or.inr hl), e, Nat.sub_self]
      show (saE (mn, q, z)).1 = mn + snN true fi la (100 - mn) ∧ mn + snN true fi la (100 - mn) ≤ 100 ∧ RZ (B0 + (mn + snN true fi la (100 - mn))) (saE (mn, q, z)).2.2 _
      rw [eE]
      exact ⟨rfl, h8, hs⟩
theorem go_el {cd : Nat → Nat} {ln nb : Nat} : ∀ k ai mn mn2 y y2, (goM cd ln nb true k ai mn y).1 = (goM cd ln nb false k ai mn2 y2).1 := by
  intro k
  induction k with
  | zero => intro ai mn mn2 y y2; rfl
  | succ k ih =>
    intro ai mn mn2 y y2
    rw [goM, goM]
    split
    · rfl
    · split
      · exact ih _ _ _ _ _
      · rfl
theorem t_send {cd : Nat → Nat} {ln B : Nat} {z : SS} {y : MS} (h : RZ B z y) (hw : (goM cd ln y.1 false (ln + 1) 0 0 (y.2.2.1, y.2.2.2)).1 = false) :
    (saZ cd ln z).1 = (goM cd ln y.1 true (ln + 1) 0 0 (y.2.2.1, y.2.2.2)).2.2.1 ∧ RZ (B + 100) (saZ cd ln z).2.2 (y.1, y.2.1, (goM cd ln y.1 true (ln + 1) 0 0 (y.2.2.1, y.2.2.2)).2.2.2.1, (goM cd ln y.1 true (ln + 1) 0 0 (y.2.2.1, y.2.2.2)).2.2.2.2) := by
  rw [← go_el (ln + 1) 0 0 0 (y.2.2.1, y.2.2.2)] at hw
  obtain ⟨h1, h2, h3⟩ := go_send (B0 := B) (ln + 1) 0 0 (y.2.2.1, y.2.2.2) z (Nat.zero_le _) (by omega) (by omega) h hw
  rw [Nat.sub_zero] at h1 h3
  exact ⟨h1, RZ_le h3 (by omega)⟩
