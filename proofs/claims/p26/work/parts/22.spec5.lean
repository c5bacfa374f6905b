theorem rcT.keep {E : wE} {g : Nat → Nat} {b : Bool} {q : RS} {H H1 : Heap} (h : rcT E g b q H) (hk : ∀ k, k < 3 → H1[g k]? = H[g k]?) : rcT E g b q H1 := by
  obtain ⟨h1, lf, h2, h3⟩ := h
  exact ⟨h1, lf, h2, h3.keep hk⟩
theorem rcT.other {E : wE} {g : Nat → Nat} {b : Bool} {q : RS} {H H1 : Heap} {A : Nat → Prop} (h : rcT E g b q H) (hk : ∀ x : Nat, x < H.size → ¬ A x → H1[x]? = H[x]?) (hA : ∀ k, k < 3 → ¬ A (g k)) : rcT E g b q H1 := by
  obtain ⟨h1, lf, h2, h3⟩ := h
  exact ⟨h1, lf, h2, h3.other hk hA⟩
theorem rcT.same {E : wE} {g : Nat → Nat} {b : Bool} {q : RS} {H H1 : Heap} (h : rcT E g b q H) (hk : ∀ x : Nat, x < H.size → ¬ wN x → H1[x]? = H[x]?) : rcT E g b q H1 := h.other hk (fun _ _ z => z)
/-- two rows of one length, side by side -/
def cpF (E : wE) (z : Nat) (x y : Nat → Int32) : Nat → va_E := fun k => match k with
  | 0 => .inl (E.2.1, z, .inl x)
  | _ => .inl (E.2.1, z, .inl y)
theorem cp_ne1 {E : wE} {z : Nat} {x y y' : Nat → Int32} : ∀ j, j < 2 → j ≠ 1 → cpF E z x y' j = cpF E z x y j := by
  intro j h3 h
  match j, h, h3 with
  | 0, _, _ => rfl
  | 1, h, _ => exact absurd rfl h
  | _ + 2, _, h3 => exact absurd h3 (by omega)
/-- the state's first three cells; behind them three receivers of three cells each -/
def stF (E : wE) (g : Nat → Nat) (nb : Nat) (va : Nat → Int32) (se : Int32) : Nat → va_E := fun k => match k with
  | 0 => .inr (4, [.int (nI nb), .ref (g 1), .int se, .ref (g 2)])
  | 1 => .inl (E.2.1, 12, .inl va)
  | _ => .inl (E.2.2.1, 3, .inr (.inr (.inr (.inr (fun i => some (g (3 + 3 * i)))))))
theorem st_ne0 {E : wE} {g : Nat → Nat} {nb nb' : Nat} {va : Nat → Int32} {se se' : Int32} : ∀ j, j < 3 → j ≠ 0 → stF E g nb' va se' j = stF E g nb va se j := by
  intro j _ h
  match j, h with
  | 0, h => exact absurd rfl h
  | 1, _ => rfl
  | _ + 2, _ => rfl
theorem st_ne1 {E : wE} {g : Nat → Nat} {nb : Nat} {va va' : Nat → Int32} {se : Int32} : ∀ j, j < 3 → j ≠ 1 → stF E g nb va' se j = stF E g nb va se j := by
  intro j _ h
  match j, h with
  | 0, _ => rfl
  | 1, h => exact absurd rfl h
  | _ + 2, _ => rfl
/-- where a receiver's cells stand -/
def rg (g : Nat → Nat) (i : Nat) : Nat → Nat := fun j => g (3 + 3 * i + j)
abbrev RR : Type := Bool × RS
def stR (E : wE) (g : Nat → Nat) (rs : Nat → RR) (H : Heap) : Prop := ∀ i, i < 3 → rcT E (rg g i) (rs i).1 (rs i).2 H
abbrev SS : Type := Nat × (Nat → Int32) × Int32 × (Nat → RR)
def stP (E : wE) (g : Nat → Nat) (nb : Nat) (va : Nat → Int32) (se : Int32) (rs : Nat → RR) (H : Heap) : Prop := wP E 3 g (stF E g nb va se) H ∧ stR E g rs H
theorem wI.le {n n' : Nat} {g : Nat → Nat} (h : wI n g) (hn : n' ≤ n) : wI n' g := fun i j hi hj e => h i j (Nat.lt_of_lt_of_le hi hn) (Nat.lt_of_lt_of_le hj hn) e
theorem wI.off {n n' : Nat} {g : Nat → Nat} (h : wI n g) (u : Nat) (hn : u + n' ≤ n) : wI n' (fun j => g (u + j)) := fun i j hi hj e => by
  have := h (u + i) (u + j) (by omega) (by omega) e
  omega
theorem rg_I {g : Nat → Nat} {i : Nat} (h : wI 12 g) (hi : i < 3) : wI 3 (rg g i) := h.off (3 + 3 * i) (by omega)
theorem rg_main {g : Nat → Nat} {i : Nat} (h : wI 12 g) (hi : i < 3) : ∀ k, k < 3 → ¬ wF 3 (rg g i) (g k) := by
  rintro k hk ⟨j, hj, e⟩
  have := h k (3 + 3 * i + j) (by omega) (by omega) e
  omega
theorem rg_rg {g : Nat → Nat} {i i2 : Nat} (h : wI 12 g) (hi : i < 3) (hi2 : i2 < 3) (hne : i2 ≠ i) : ∀ k, k < 3 → ¬ wF 3 (rg g i) (rg g i2 k) := by
  rintro k hk ⟨j, hj, e⟩
  have := h (3 + 3 * i2 + k) (3 + 3 * i + j) (by omega) (by omega) e
  omega
theorem rg_in {g : Nat → Nat} {i : Nat} (hi : i < 3) : ∀ q, wF 3 (rg g i) q → wF 12 g q := by
  rintro q ⟨j, hj, rfl⟩
  exact ⟨3 + 3 * i + j, by omega, rfl⟩
/-- a write into the state's own cells -/
theorem stR.put {E : wE} {g : Nat → Nat} {rs : Nat → RR} {H H1 : Heap} (h : stR E g rs H) (hI : wI 12 g) {k : Nat} (hk : k < 3) (ho : ∀ q : Nat, q ≠ g k → H1[q]? = H[q]?) : stR E g rs H1 := by
  intro i hi
  refine (h i hi).keep fun j hj => ho _ fun e => ?_
  have := hI (3 + 3 * i + j) k (by omega) (by omega) e
  omega
theorem stR.same {E : wE} {g : Nat → Nat} {rs : Nat → RR} {H H1 : Heap} (h : stR E g rs H) (hk : ∀ x : Nat, x < H.size → ¬ wN x → H1[x]? = H[x]?) : stR E g rs H1 := fun i hi => (h i hi).same hk
theorem stR.other {E : wE} {g : Nat → Nat} {rs : Nat → RR} {H H1 : Heap} {A : Nat → Prop} (h : stR E g rs H) (hk : ∀ x : Nat, x < H.size → ¬ A x → H1[x]? = H[x]?) (hA : ∀ k, k < 12 → ¬ A (g k)) : stR E g rs H1 := fun i hi => (h i hi).other hk (fun k hk2 => hA _ (by omega))
theorem stP.same {E : wE} {g : Nat → Nat} {nb : Nat} {va : Nat → Int32} {se : Int32} {rs : Nat → RR} {H H1 : Heap} (h : stP E g nb va se rs H) (hk : ∀ x : Nat, x < H.size → ¬ wN x → H1[x]? = H[x]?) : stP E g nb va se rs H1 := ⟨h.1.same hk, h.2.same hk⟩
theorem stP.other {E : wE} {g : Nat → Nat} {nb : Nat} {va : Nat → Int32} {se : Int32} {rs : Nat → RR} {H H1 : Heap} {A : Nat → Prop} (h : stP E g nb va se rs H) (hk : ∀ x : Nat, x < H.size → ¬ A x → H1[x]? = H[x]?) (hA : ∀ k, k < 12 → ¬ A (g k)) : stP E g nb va se rs H1 := ⟨h.1.other hk (fun k hk2 => hA k (by omega)), h.2.other hk hA⟩
/-- a receiver has changed -/
theorem stR.set {E : wE} {g : Nat → Nat} {rs : Nat → RR} {H H1 : Heap} (h : stR E g rs H) (hI : wI 12 g) {i : Nat} (hi : i < 3) (hk : ∀ q : Nat, q < H.size → ¬ wF 3 (rg g i) q → H1[q]? = H[q]?) {r : RR} (h1 : rcT E (rg g i) r.1 r.2 H1) : stR E g (va_up rs i r) H1 := by
  intro j hj
  by_cases e : j = i
  · subst e
    unfold va_up
    rw [if_pos rfl]
    exact h1
  · unfold va_up
    rw [if_neg e]
    exact (h j hj).other hk (rg_rg hI hi hj e)
def fgR (r : RR) : RR := (r.1, 0, (fun _ => 0), [], r.2.2.2.2.1, r.2.2.2.2.2.1, r.2.2.2.2.2.2)
/-- the first i receivers are told f, the rest as before -/
def mapR (f : RR → RR) (rs : Nat → RR) (i : Nat) : Nat → RR := fun j => if j < i then f (rs j) else rs j
theorem mapR_0 (f : RR → RR) (rs : Nat → RR) : mapR f rs 0 = rs := by
  funext j
  unfold mapR
  rw [if_neg (Nat.not_lt_zero j)]
theorem mapR_at {f : RR → RR} {rs : Nat → RR} {i : Nat} : mapR f rs i i = rs i := by
  unfold mapR
  rw [if_neg (Nat.lt_irrefl i)]
theorem mapR_s {f : RR → RR} {rs : Nat → RR} {i : Nat} : va_up (mapR f rs i) i (f (rs i)) = mapR f rs (i + 1) := by
  funext j
  unfold va_up mapR
  by_cases e : j = i
  · subst e
    rw [if_pos rfl, if_pos (Nat.lt_succ_self j)]
  · rw [if_neg e]
    by_cases h2 : j < i
    · rw [if_pos h2, if_pos (Nat.lt_succ_of_lt h2)]
    · rw [if_neg h2, if_neg (show ¬ j < i + 1 by omega)]
theorem mapR_id {f : RR → RR} {rs : Nat → RR} {i : Nat} (h : f (rs i) = rs i) : mapR f rs i = mapR f rs (i + 1) := by
  funext j
  unfold mapR
  by_cases e : j = i
  · subst e
    rw [if_neg (Nat.lt_irrefl j), if_pos (Nat.lt_succ_self j), h]
  · by_cases h2 : j < i
    · rw [if_pos h2, if_pos (Nat.lt_succ_of_lt h2)]
    · rw [if_neg h2, if_neg (show ¬ j < i + 1 by omega)]
/-- values from the place b0 on are 0, as far as the place i -/
def cutV (va : Nat → Int32) (nb i : Nat) : Nat → Int32 := fun b => if b < i then (if b < nb then va b else 0) else va b
theorem cutV_0 (va : Nat → Int32) (nb : Nat) : cutV va nb 0 = va := by
  funext b
  unfold cutV
  rw [if_neg (Nat.not_lt_zero b)]
theorem cutV_z {va : Nat → Int32} {nb i : Nat} (h : i < nb) : cutV va nb i = cutV va nb (i + 1) := by
  funext b
  unfold cutV
  by_cases e : b = i
  · subst e
    rw [if_neg (Nat.lt_irrefl b), if_pos (Nat.lt_succ_self b), if_pos h]
  · by_cases h2 : b < i
    · rw [if_pos h2, if_pos (Nat.lt_succ_of_lt h2)]
    · rw [if_neg h2, if_neg (show ¬ b < i + 1 by omega)]
theorem cutV_y {va : Nat → Int32} {nb i : Nat} (h : ¬ i < nb) : upd (cutV va nb i) i 0 = cutV va nb (i + 1) := by
  funext b
  by_cases e : b = i
  · subst e
    rw [pk_us]
    unfold cutV
    rw [if_pos (Nat.lt_succ_self b), if_neg h]
  · rw [pk_un e]
    unfold cutV
    by_cases h2 : b < i
    · rw [if_pos h2, if_pos (Nat.lt_succ_of_lt h2)]
    · rw [if_neg h2, if_neg (show ¬ b < i + 1 by omega)]
/-- the first block from b on that is not in the mix -/
def foS (nb : Nat) (x : Int32) : Nat → Nat → Nat
  | 0, b => b
  | n + 1, b => if hldI x (nI b) = 0 then b else foS nb x n (if b + 1 < nb then b + 1 else 0)
theorem foS_lt {nb : Nat} {x : Int32} : ∀ n b, b < nb → foS nb x n b < nb := by
  intro n
  induction n with
  | zero => intro b h; exact h
  | succ n ih =>
    intro b h
    unfold foS
    by_cases c : hldI x (nI b) = 0
    · rw [if_pos c]; exact h
    · rw [if_neg c]
      by_cases c2 : b + 1 < nb
      · rw [if_pos c2]; exact ih _ c2
      · rw [if_neg c2]; exact ih _ (by omega)
def degN (j : Nat) : Nat := [1, 1, 2, 2, 2, 2, 2, 3, 3, 3, 4, 4, 5, 6, 8, 12].getD j 1
def stepM (nb : Nat) (va : Nat → Int32) (q : Nat × Int32) : Nat × Int32 := ((q.1 * 171 + 11) % 30269, q.2 ^^^ (((1 : Int32) <<< (nI (foS nb q.2 nb ((q.1 * 171 + 11) % 30269 % nb)) &&& 31)) ||| (va (foS nb q.2 nb ((q.1 * 171 + 11) % 30269 % nb)) <<< ((12 : Int32) &&& 31))))
def mixS (nb : Nat) (va : Nat → Int32) (k : Nat) : Int32 := (itr (fun _ q => stepM nb va q) (if nb < degN ((k * 7919 + 17) % 30269 % 16) then nb else degN ((k * 7919 + 17) % 30269 % 16)) 0 ((k * 7919 + 17) % 30269, 0)).2
/-- the static row of degrees -/
def dgP (A : Nat → Prop) (U : State) (H : Heap) : Prop := ∃ t : Nat, va_Z "MixedBlocks" "DEGREES" "[I" (.ref t) A U H ∧ va_T .int t 16 (fun j => .int (nI (degN j))) A U H
theorem dgP.moved {A : Nat → Prop} {u U : State} {H : Heap} (hvm : u.vm.Alike U.vm) (h : dgP A u H) : dgP A U H := by
  obtain ⟨t, h1, h2⟩ := h
  exact ⟨t, h1.moved hvm, h2.moved hvm⟩
theorem dgP.kept {A : Nat → Prop} {U : State} {H H1 : Heap} (h : dgP A U H) (hq : ∀ a : Nat, a < H.size → ¬ A a → H1[a]? = H[a]?) : dgP A U H1 := by
  obtain ⟨t, h1, h2⟩ := h
  exact ⟨t, h1.kept hq, h2.kept hq⟩
theorem dgP.narrow {A B : Nat → Prop} {U : State} {H : Heap} (h : dgP A U H) (hAB : ∀ q, B q → A q) : dgP B U H := by
  obtain ⟨t, h1, h2⟩ := h
  exact ⟨t, h1.narrow hAB, h2.narrow hAB⟩
/-- a method's start, with the row of degrees out of the cells A -/
def wSd (E : wE) (n : Nat) (g : Nat → Nat) (A : Nat → Prop) (P : Heap → Prop) (U : State) : Prop := P U.heap ∧ wK E U ∧ wI n g ∧ dgP A U U.heap
theorem wSd.blind {E : wE} {n : Nat} {g : Nat → Nat} {A : Nat → Prop} {P : Heap → Prop} {av : List Value} : FrameBlind (va_Pc av (wSd E n g A P)) := fun a U fr mk q => ⟨q.1, q.2.1, q.2.2.1.calling fr mk a, q.2.2.2.1, q.2.2.2.2.moved (u := U) (U := U.calling fr mk a) (Vm.Alike.refl U.vm)⟩
theorem wSd.go {E : wE} {n : Nat} {g : Nat → Nat} {A A0 : Nat → Prop} {P : Heap → Prop} {s U : State} {H : Heap} {locs : List Loc} {av : List Value} (hP : P H) (hK : wK E s) (hI : wI n g) (hdg : dgP A0 s s.heap) (hS : va_S A0 s.heap H locs) (hA : ∀ q, A q → A0 q) (hU : U.heap = H) (hW : s.WarmedH U.vm) : va_Pc av (wSd E n g A P) av.toArray U :=
  ⟨rfl, by rw [hU]; exact hP, hK.warm hW, hI, by rw [hU]; exact ((hdg.kept hS.2.1).moved hW.alike).narrow hA⟩
