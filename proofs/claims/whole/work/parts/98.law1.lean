/-! the law's body: what stands at its loop's head -/
theorem MOB.at {E : wE} {g : Nat → Nat} {th : Int32} {ln : Nat} {tx : Nat → Int32} {nb : Nat} {va : Nat → Int32} {se : Int32} {rc : Nat → MR} {ke : Nat} {hs : Nat → MS} {H H1 : Heap} (h : MOB E g th ln tx nb va se rc ke hs H) {A : Nat → Prop} (hk : ∀ q : Nat, q < H.size → ¬ A q → H1[q]? = H[q]?) (hne : ∀ k, k < 6 → ¬ A (g k)) : MOB E g th ln tx nb va se rc ke hs H1 := by
  obtain ⟨sv, ai, wr, dg, ⟨aa, ro, rv, hP, hrv⟩, hr⟩ := h
  exact ⟨sv, ai, wr, dg, ⟨aa, ro, rv, hP.other hk hne, hrv⟩, hr⟩
theorem MOB.recv {E : wE} {g : Nat → Nat} {th : Int32} {ln : Nat} {tx : Nat → Int32} {nb : Nat} {va : Nat → Int32} {se : Int32} {rc : Nat → MR} {ke : Nat} {hs : Nat → MS} {H : Heap} {s : State} (hK : wK E s) (h : MOB E g th ln tx nb va se rc ke hs H) : ∃ cell : Cell, H[g 0]? = some cell ∧ cell.vm.isStatics = false ∧ s.vm.findClass RX6 = some cell.cls := by
  obtain ⟨sv, ai, wr, dg, ⟨aa, ro, rv, hP, hrv⟩, hr⟩ := h
  exact w_recv hK hP 0 (by decide) rfl (ci := 6) rfl
theorem MB.recv {E : wE} {g : Nat → Nat} {ln : Nat} {bf : Nat → Int32} {z : SS} {ke : Nat} {hs : Nat → SS} {H : Heap} {s : State} (hK : wK E s) (h : MB E g ln bf z ke hs H) : ∃ cell : Cell, H[g 0]? = some cell ∧ cell.vm.isStatics = false ∧ s.vm.findClass RX5 = some cell.cls := w_recv hK h.main 0 (by decide) rfl (ci := 5) rfl
abbrev lwA (s : State) : Nat → Prop := fun q => s.heap.size ≤ q
/-- what does not change in the loop -/
def LC (p : Program) (l : Launch) (s : State) (m : MethodId) (meth : Method) (c : Code) (b L : Nat) (xs : Nat → Int32) (E : wE) (cL cD : ClassId) (g gm : Nat → Nat) (ao ad : Nat) : Prop :=
  (p.tables.exec = Jvm.exec) ∧ (c.code = cL_law) ∧ (c.maxLocals = 9) ∧ (s.vm.findClass RL = some m.cls) ∧ (∀ w ∈ wsL_law, w.before #[Value.ref b] s = true) ∧ (va_X b L xs s s.heap) ∧ (b < s.heap.size) ∧ (l.stackTraces = false) ∧ (L ≤ 2048) ∧ (wK E s) ∧ (va_K E.1 [] (tysL cL cD) s) ∧ (xE (lwA s) s s.heap) ∧ (xC s) ∧ (wI 94 g) ∧ (wI 6 gm) ∧ (∀ k, k < 94 → s.heap.size ≤ g k) ∧ (∀ k, k < 6 → s.heap.size ≤ gm k) ∧ (s.heap.size ≤ ao) ∧ (s.heap.size ≤ ad) ∧ (∀ k, k < 94 → g k ≠ ao) ∧ (∀ k, k < 94 → g k ≠ ad) ∧ (∀ k, k < 6 → gm k ≠ ao) ∧ (∀ k, k < 6 → gm k ≠ ad) ∧ (∀ k j, k < 94 → j < 6 → g k ≠ gm j) ∧ (ao ≠ ad)
section LCS
variable {p : Program} {l : Launch} {s : State} {m : MethodId} {meth : Method} {c : Code} {b L : Nat} {xs : Nat → Int32} {E : wE} {cL cD : ClassId} {g gm : Nat → Nat} {ao ad : Nat}
theorem LC.hx (C : LC p l s m meth c b L xs E cL cD g gm ao ad) : p.tables.exec = Jvm.exec := C.1
theorem LC.hb (C : LC p l s m meth c b L xs E cL cD g gm ao ad) : c.code = cL_law := C.2.1
theorem LC.hml (C : LC p l s m meth c b L xs E cL cD g gm ao ad) : c.maxLocals = 9 := C.2.2.1
theorem LC.hown (C : LC p l s m meth c b L xs E cL cD g gm ao ad) : s.vm.findClass RL = some m.cls := C.2.2.2.1
theorem LC.hts (C : LC p l s m meth c b L xs E cL cD g gm ao ad) : ∀ w ∈ wsL_law, w.before #[Value.ref b] s = true := C.2.2.2.2.1
theorem LC.hX (C : LC p l s m meth c b L xs E cL cD g gm ao ad) : va_X b L xs s s.heap := C.2.2.2.2.2.1
theorem LC.hbl (C : LC p l s m meth c b L xs E cL cD g gm ao ad) : b < s.heap.size := C.2.2.2.2.2.2.1
theorem LC.hst (C : LC p l s m meth c b L xs E cL cD g gm ao ad) : l.stackTraces = false := C.2.2.2.2.2.2.2.1
theorem LC.hL (C : LC p l s m meth c b L xs E cL cD g gm ao ad) : L ≤ 2048 := C.2.2.2.2.2.2.2.2.1
theorem LC.hK (C : LC p l s m meth c b L xs E cL cD g gm ao ad) : wK E s := C.2.2.2.2.2.2.2.2.2.1
theorem LC.hKL (C : LC p l s m meth c b L xs E cL cD g gm ao ad) : va_K E.1 [] (tysL cL cD) s := C.2.2.2.2.2.2.2.2.2.2.1
theorem LC.hxe (C : LC p l s m meth c b L xs E cL cD g gm ao ad) : xE (lwA s) s s.heap := C.2.2.2.2.2.2.2.2.2.2.2.1
theorem LC.hxc (C : LC p l s m meth c b L xs E cL cD g gm ao ad) : xC s := C.2.2.2.2.2.2.2.2.2.2.2.2.1
theorem LC.hI (C : LC p l s m meth c b L xs E cL cD g gm ao ad) : wI 94 g := C.2.2.2.2.2.2.2.2.2.2.2.2.2.1
theorem LC.hIm (C : LC p l s m meth c b L xs E cL cD g gm ao ad) : wI 6 gm := C.2.2.2.2.2.2.2.2.2.2.2.2.2.2.1
theorem LC.hAg (C : LC p l s m meth c b L xs E cL cD g gm ao ad) : ∀ k, k < 94 → s.heap.size ≤ g k := C.2.2.2.2.2.2.2.2.2.2.2.2.2.2.2.1
theorem LC.hAm (C : LC p l s m meth c b L xs E cL cD g gm ao ad) : ∀ k, k < 6 → s.heap.size ≤ gm k := C.2.2.2.2.2.2.2.2.2.2.2.2.2.2.2.2.1
theorem LC.hAo (C : LC p l s m meth c b L xs E cL cD g gm ao ad) : s.heap.size ≤ ao := C.2.2.2.2.2.2.2.2.2.2.2.2.2.2.2.2.2.1
theorem LC.hAd (C : LC p l s m meth c b L xs E cL cD g gm ao ad) : s.heap.size ≤ ad := C.2.2.2.2.2.2.2.2.2.2.2.2.2.2.2.2.2.2.1
theorem LC.ngo (C : LC p l s m meth c b L xs E cL cD g gm ao ad) : ∀ k, k < 94 → g k ≠ ao := C.2.2.2.2.2.2.2.2.2.2.2.2.2.2.2.2.2.2.2.1
theorem LC.ngd (C : LC p l s m meth c b L xs E cL cD g gm ao ad) : ∀ k, k < 94 → g k ≠ ad := C.2.2.2.2.2.2.2.2.2.2.2.2.2.2.2.2.2.2.2.2.1
theorem LC.nmo (C : LC p l s m meth c b L xs E cL cD g gm ao ad) : ∀ k, k < 6 → gm k ≠ ao := C.2.2.2.2.2.2.2.2.2.2.2.2.2.2.2.2.2.2.2.2.2.1
theorem LC.nmd (C : LC p l s m meth c b L xs E cL cD g gm ao ad) : ∀ k, k < 6 → gm k ≠ ad := C.2.2.2.2.2.2.2.2.2.2.2.2.2.2.2.2.2.2.2.2.2.2.1
theorem LC.ngm (C : LC p l s m meth c b L xs E cL cD g gm ao ad) : ∀ k j, k < 94 → j < 6 → g k ≠ gm j := C.2.2.2.2.2.2.2.2.2.2.2.2.2.2.2.2.2.2.2.2.2.2.2.1
theorem LC.nod (C : LC p l s m meth c b L xs E cL cD g gm ao ad) : ao ≠ ad := C.2.2.2.2.2.2.2.2.2.2.2.2.2.2.2.2.2.2.2.2.2.2.2.2
end LCS
/-- what stands -/
def LI (E : wE) (cL cD : ClassId) (g gm : Nat → Nat) (ao ad B : Nat) (H : Heap) : Prop :=
  ∃ (ln : Nat) (bf : Nat → Int32) (z : SS) (y : MS) (ke : Nat) (hs : Nat → SS) (ms : Nat → MS) (th : Int32) (cd : Nat → Nat) (x0 : Int64) (d0 : UInt64), MB E g ln bf z ke hs H ∧ MOB E gm th ln bf y.1 y.2.1 y.2.2.1 y.2.2.2 ke ms H ∧ RZ B z y ∧ RHs B ke hs ms ∧ (∀ j, j < ln → cd j ≤ 126 ∧ bf j = nI (cd j)) ∧ oA cL ao (.long x0) H ∧ oA cD ad (.double d0) H
theorem lv_bool {p : Program} {l : Launch} {e : Env} {R : Room} {s : State} {m : MethodId} {args : Array Value} {below : List Frame} {meth : Method} {c : Code} {H : Heap} {locs : List Loc} {cells slots : Nat} {Q : State → Prop} {cc : ByteArray} {pc : Nat} {ls : Array Slot} {rest : List Value} {x : Int32} (hx : p.tables.exec = Jvm.exec) (hb : c.code = cc) (d1 : decode cc pc = .ok (.ifCond .eq 7, 3)) (d2 : decode cc (pc + 3) = .ok (.iconst 1, 1)) (d3 : decode cc (pc + 4) = .ok (.goto 4, 3)) (d4 : decode cc (pc + 7) = .ok (.iconst 0, 1))
    (kk : W p l e R s m args below meth c H locs cells slots Q (F0 m (pc + 8) ls (.int (bI (decide (¬ x = 0))) :: rest))) : W p l e R s m args below meth c H locs cells slots Q (F0 m pc ls (.int x :: rest)) := by
  refine lv_if_eq (tgt := pc + 7) hx hb d1 (by omega) (fun h => ?_) (fun h => ?_)
  · rw [show bI (decide (¬ x = 0)) = 0 by rw [h]; rfl] at kk
    exact lv_iconst (v := 0) hx hb d4 (by decide) kk
  · rw [show bI (decide (¬ x = 0)) = 1 by rw [decide_eq_true h]; rfl] at kk
    refine lv_iconst (v := 1) hx hb d2 (by decide) ?_
    exact lv_goto (tgt := pc + 8) hx hb d3 (by omega) kk
theorem lg_same (x : Int64) : lg_cmp x x = 0 := by
  unfold lg_cmp
  first | (rw [if_neg (Int64.lt_irrefl x), if_neg (Int64.lt_irrefl x)]) | simp
/-- places of the script -/
theorem sc_in {L n j : Nat} (h : 4 * n + 4 ≤ L) (hL : L ≤ 2048) (hj : j < 4) : vp_in (nI (4 * n) + nI j) L := by
  rw [nI_add]
  exact vp_in_nI (by omega) (by omega)
theorem sc_in0 {L n : Nat} (h : 4 * n + 4 ≤ L) (hL : L ≤ 2048) : vp_in (nI (4 * n)) L := vp_in_nI (by omega) (by omega)
theorem i_rng {x : Int32} {a b : Nat} (h : nI a ≤ x ∧ x ≤ nI b) (hb : b < 2 ^ 31) (ha : a ≤ b) : ∃ n, a ≤ n ∧ n ≤ b ∧ x = nI n := by
  rcases pk_ix x hb with q | q | ⟨j, hj, rfl⟩
  · exfalso
    have h1 : nI 0 ≤ nI a := (nI_leI (by omega) (by omega)).mpr (Nat.zero_le a)
    have h2 := Int32.le_trans h1 h.1
    exact absurd q (Int32.not_lt.mpr h2)
  · have e : x = nI b := Int32.le_antisymm h.2 q
    exact ⟨b, ha, Nat.le_refl b, e⟩
  · exact ⟨j, (nI_leI (by omega) (by omega)).mp h.1, by omega, rfl⟩
theorem i_in {x : Int32} {n : Nat} (h : vp_in x n) (hn : n < 2 ^ 31) : ∃ k, k < n ∧ x = nI k := by
  obtain ⟨j, hj, e⟩ := vp_in_of h hn
  exact ⟨j, hj, e⟩
theorem inB_r {x lo hi : Int32} (h : lo ≤ x ∧ x ≤ hi) : inB x lo hi = true := decide_eq_true ⟨Int32.not_lt.mpr h.1, Int32.not_lt.mpr h.2⟩
theorem inB_nr {x lo hi : Int32} (h : ¬ (lo ≤ x ∧ x ≤ hi)) : inB x lo hi = false := decide_eq_false fun z => h ⟨Int32.not_lt.mp z.1, Int32.not_lt.mp z.2⟩
theorem inB_v {x hi : Int32} {n : Nat} (hhi : hi = nI (n - 1)) (h0 : 0 < n) (hn : n < 2 ^ 31) (h : vp_in x n) : inB x 0 hi = true := by
  obtain ⟨k, hk, rfl⟩ := i_in h hn
  exact inB_t (n := k) (a := 0) (b := n - 1) rfl rfl hhi (Nat.zero_le k) (by omega) (by omega)
section SCL
variable {p : Program} {l : Launch} {e : Env} {R : Room} {s : State} {m : MethodId} {args : Array Value} {below : List Frame} {meth : Method} {c : Code} {H : Heap} {locs : List Loc} {cells slots : Nat} {Q : State → Prop} {pc : Nat} {ls : Array Slot} {rest : List Value} {b L : Nat} {xs : Nat → Int32}
/-- a place of the script is laid on the stack -/
theorem sc_load (hx : p.tables.exec = Jvm.exec) (hb : c.code = cL_law) (hX : va_X b L xs s s.heap) (hbl : b < s.heap.size) (hS : va_S (lwA s) s.heap H locs) (hL : L ≤ 2048) {n j : Nat} (hn : 4 * n + 4 ≤ L) (hj : j < 4) {w : Int32} (hw : xs (4 * n + j) = w) (h0 : ls[0]? = some (.val (.ref b))) (h5 : ls[5]? = some (.val (.int (nI (4 * n))))) {k : Int} (hk : Int32.ofInt k = nI j)
    (d1 : decode cL_law pc = .ok (.aload_n 0, 1)) (d2 : decode cL_law (pc + 1) = .ok (.iload 5, 2)) (d3 : decode cL_law (pc + 3) = .ok (.iconst k, 1)) (d4 : decode cL_law (pc + 4) = .ok (.iadd, 1)) (d5 : decode cL_law (pc + 5) = .ok (.iaload, 1))
    (kk : W p l e R s m args below meth c H locs cells slots Q (F0 m (pc + 6) ls (.int w :: rest))) : W p l e R s m args below meth c H locs cells slots Q (F0 m pc ls rest) := by
  refine lv_aload_n hx hb d1 rfl h0 ?_
  refine lv_iload hx hb d2 h5 ?_
  refine lv_iconst (v := nI j) hx hb d3 hk ?_
  refine lv_iadd hx hb d4 ?_
  refine va_sld hx hb hX hbl (Nat.not_le_of_lt hbl) hS (sc_in hn hL hj) d5 ?_
  rw [nI_add, nI_clamp (by omega), hw]
  exact kk
/-- the first place -/
theorem sc_load0 (hx : p.tables.exec = Jvm.exec) (hb : c.code = cL_law) (hX : va_X b L xs s s.heap) (hbl : b < s.heap.size) (hS : va_S (lwA s) s.heap H locs) (hL : L ≤ 2048) {n : Nat} (hn : 4 * n + 4 ≤ L) {w : Int32} (hw : xs (4 * n) = w) (h0 : ls[0]? = some (.val (.ref b))) (h5 : ls[5]? = some (.val (.int (nI (4 * n)))))
    (d1 : decode cL_law pc = .ok (.aload_n 0, 1)) (d2 : decode cL_law (pc + 1) = .ok (.iload 5, 2)) (d5 : decode cL_law (pc + 3) = .ok (.iaload, 1))
    (kk : W p l e R s m args below meth c H locs cells slots Q (F0 m (pc + 4) ls (.int w :: rest))) : W p l e R s m args below meth c H locs cells slots Q (F0 m pc ls rest) := by
  refine lv_aload_n hx hb d1 rfl h0 ?_
  refine lv_iload hx hb d2 h5 ?_
  refine va_sld hx hb hX hbl (Nat.not_le_of_lt hbl) hS (sc_in0 hn hL) d5 ?_
  rw [nI_clamp (by omega), hw]
  exact kk
end SCL
theorem oA_eq {cL : ClassId} {ao : Nat} {a r : Int32} {H : Heap} (h : oA cL ao (.long a.toInt64) H) (e : a = r) : oA cL ao (.long r.toInt64) H := by rw [← e]; exact h
theorem oA_eqD {cD : ClassId} {ad : Nat} {a r : UInt64} {H : Heap} (h : oA cD ad (.double a) H) (e : a = r) : oA cD ad (.double r) H := by rw [← e]; exact h
theorem t_ok {cd : Nat → Nat} {ln nb : Nat} {y : YS} (h : ctS cd ln = true) : (goM cd ln nb false (ln + 1) 0 0 y).1 = false := by
  have h2 := (t_err (cd := cd) (ln := ln) (nb := nb) (y := y)).2
  rw [h] at h2
  cases q : (goM cd ln nb false (ln + 1) 0 0 y).1
  · rfl
  · rw [q] at h2; exact absurd h2 (by decide)
theorem t_no {cd : Nat → Nat} {ln nb : Nat} {y : YS} (h : ¬ ctS cd ln = true) : (goM cd ln nb false (ln + 1) 0 0 y).1 = true := by
  have h2 := (t_err (cd := cd) (ln := ln) (nb := nb) (y := y)).2
  cases q : (goM cd ln nb false (ln + 1) 0 0 y).1
  · rw [q] at h2; exact absurd h2 h
  · rfl
theorem cd_add {cd : Nat → Nat} {bf : Nat → Int32} {ln c1 : Nat} (h : ∀ j, j < ln → cd j ≤ 126 ∧ bf j = nI (cd j)) (h1 : c1 ≤ 126) : ∀ j, j < ln + 1 → (fun j => if j = ln then c1 else cd j) j ≤ 126 ∧ upd bf ln (nI c1) j = nI ((fun j => if j = ln then c1 else cd j) j) := by
  intro j hj
  show (if j = ln then c1 else cd j) ≤ 126 ∧ upd bf ln (nI c1) j = nI (if j = ln then c1 else cd j)
  by_cases e : j = ln
  · rw [if_pos e, e, pk_us]; exact ⟨h1, rfl⟩
  · rw [if_neg e, pk_un e]; exact h j (by omega)
theorem cd_0 {cd : Nat → Nat} {bf : Nat → Int32} : ∀ j, j < 0 → cd j ≤ 126 ∧ bf j = nI (cd j) := fun j h => absurd h (Nat.not_lt_zero j)
theorem i_nn {x : Int32} (h : ¬ x < 0) : ∃ q, q < 2 ^ 31 ∧ x = nI q := by
  have h1 : 0 ≤ x.toInt := by
    have := Int32.not_lt.mp h
    exact Int32.le_iff_toInt_le.mp this
  have h2 := x.toInt_lt
  refine ⟨x.toInt.toNat, by omega, ?_⟩
  apply Int32.toInt.inj
  rw [nI_toInt (by omega)]
  omega
