section WNEW2
variable {p : Program} {l : Launch} {e : Env} {R : Room} {s : State} {m : MethodId} {args : Array Value} {below : List Frame} {meth : Method} {c : Code} {H : Heap} {locs : List Loc} {cells slots : Nat} {Q : State → Prop} {cc : ByteArray} {pc : Nat} {ls : Array Slot} {rest : List Value} {A : Nat → Prop} {H0 : Heap} {E : wE}
theorem w_newo (hexec : p.tables.exec = Jvm.exec) (hb : c.code = cc) {own C : String} {T : u_T} {N ci index : Nat} {Ts : List Cond} (hts : ∀ w ∈ Ts, w.before args s = true) (hin : ∀ w ∈ u_ws C T N, w ∈ Ts) (ty : Nat → FieldType) (hty : ∀ k, k < N → parseFieldDescriptor (T k).2.2.1 = some (ty k)) (hown : s.vm.findClass own = some m.cls) (hcl : (Cond.classLink own index C).before args s = true) (hinst : (Cond.instantiable C N).before args s = true) (hini : (Cond.initialized C).before args s = true)
    (hK : wK E s) (hS : va_S A H0 H locs) (hc : vwCl[ci]? = some (C, T, N)) {fs : List Value} (hfs : ∀ j, j < N → defaultValue (ty j) = vp_V fs j) (hcells : cells + 1 ≤ R.cells) (hslots : slots + N ≤ R.slots) (hdg : decode cc pc = .ok (.new index, 3))
    (kk : ∀ (H1 : Heap), wP E 1 (fun _ => H.size) (fun _ => .inr (ci, fs)) H1 → H1.size = H.size + 1 → (∀ q : Nat, q < H.size → H1[q]? = H[q]?) → va_S A H0 H1 locs →
      W p l e R s m args below meth c H1 locs (cells + 1) (slots + N) Q (F0 m (pc + 3) ls (.ref H.size :: rest))) : W p l e R s m args below meth c H locs cells slots Q (F0 m pc ls rest) := by
  have hKn := hK.1.1 ci _ hc
  refine W.newcK hexec hb hown hcl hinst hini rfl hdg hcells hslots hKn.2.1 rfl fun H1 kC hkC e1 z1 o1 => ?_
  refine kk H1 (wP_at.mpr fun _ _ => ?_) z1 o1 ⟨Nat.le_trans hS.1 (by omega), fun x h1 h2 => (o1 x (Nat.lt_of_lt_of_le h1 hS.1)).trans (hS.2.1 x h1 h2), hS.2.2⟩
  exact ⟨_, hc, (u_born ty hts hin hKn hkC e1 hty).to hfs⟩
theorem w_newq1 (hexec : p.tables.exec = Jvm.exec) (hb : c.code = cc) {own C : String} {index : Nat} (hown : s.vm.findClass own = some m.cls) (hclink : (Cond.classLink own index C).before args s = true) (hover : va_AO C s) (hK : wK E s) (hS : va_S A H0 H locs) (t0 : Nat) {cA : ClassId} (ht : (tysE E)[t0]? = some (cA, .object C))
    {n : Int32} (N' : Nat) (hn : ¬ n < 0) (hN : n.toNatClampNeg = N') (hbytes : N' * 4 ≤ 536870912) (hcells : cells + 1 ≤ R.cells) (hslots : slots + N' ≤ R.slots) (hdg : decode cc pc = .ok (.anewarray index, 3))
    (kk : ∀ (H1 : Heap), wP E 1 (fun _ => H.size) (fun _ => .inl (cA, N', .inr (.inr (.inr (.inr (fun _ => none)))))) H1 → H1.size = H.size + 1 → (∀ q : Nat, q < H.size → H1[q]? = H[q]?) → va_S A H0 H1 locs →
      W p l e R s m args below meth c H1 locs (cells + 1) (slots + N') Q (F0 m (pc + 3) ls (.ref H.size :: rest))) : W p l e R s m args below meth c H locs cells slots Q (F0 m pc ls (.int n :: rest)) := by
  subst hN
  refine W.anew hexec hb hown hclink (va_AO.use hover) rfl hdg rfl hn hbytes hcells hslots fun cA2 kA comp f1 f2 f3 f4 => ?_
  obtain ⟨kA', comp', k1, k2, k3, k4⟩ : va_RA s cA (.object C) := (hK.1.2 t0 _ ht).2
  have hcc : cA2 = cA := Option.some.inj (f1.symm.trans k4)
  subst hcc
  generalize hH1 : H.push ({ cls := cA2, slots := Array.replicate n.toNatClampNeg .null, vm := .none } : Cell) = H1
  have z1 : H1.size = H.size + 1 := by rw [← hH1, Array.size_push]
  have e1 : H1[H.size]? = some (arrV cA2 n.toNatClampNeg (fun _ => .null)) := by rw [← hH1, Array.getElem?_push_size, ← arrV_new]
  have o1 : ∀ q : Nat, q < H.size → H1[q]? = H[q]? := fun q hq => by rw [← hH1, Array.getElem?_push, if_neg (Nat.ne_of_lt hq)]
  refine kk H1 (wP_at.mpr fun _ _ => ?_) z1 o1 ⟨Nat.le_trans hS.1 (by omega), fun x h1 h2 => (o1 x (Nat.lt_of_lt_of_le h1 hS.1)).trans (hS.2.1 x h1 h2), hS.2.2⟩
  show H1[H.size]? = some (vp_cell _ _)
  rw [vp_cell_q, e1]
  rfl
theorem w_astq1 (hexec : p.tables.exec = Jvm.exec) (hb : c.code = cc) (hK : wK E s) {a : Nat} {cA : ClassId} {n : Nat} {f : Nat → Option Nat} (hP : wP E 1 (fun _ => a) (fun _ => .inl (cA, n, .inr (.inr (.inr (.inr f))))) H) (hA : A a) (hS : va_S A H0 H locs) (t0 : Nat) {ci : Nat} {r : vw_C} (ht : (tysE E)[t0]? = some (cA, .object r.1)) {n2 : Nat} {gv : Nat → Nat} {fv : Nat → va_E} (hv : wP E n2 gv fv H) (qv : Nat) (hqv : qv < n2) {vs : List Value} (hve : fv qv = .inr (ci, vs)) (hc : vwCl[ci]? = some r) {i : Int32} (hin : vp_in i n) (hdg : decode cc pc = .ok (.aastore, 1))
    (kk : ∀ (H1 : Heap) (locs1 : List Loc), wP E 1 (fun _ => a) (fun _ => .inl (cA, n, .inr (.inr (.inr (.inr (va_up f i.toNatClampNeg (some (gv qv)))))))) H1 → H1.size = H.size → (∀ q : Nat, q ≠ a → H1[q]? = H[q]?) → va_S A H0 H1 locs1 → W p l e R s m args below meth c H1 locs1 cells slots Q (F0 m (pc + 1) ls rest)) : W p l e R s m args below meth c H locs cells slots Q (F0 m pc ls (.ref (gv qv) :: .int i :: .ref a :: rest)) := by
  have hlt : i.toNatClampNeg < n := Nat.not_le.mp fun q => hin (Or.inr q)
  have h0 : ¬ i < 0 := fun q => hin (Or.inl q)
  have hv1 := wP_at.mp hv qv hqv
  rw [hve] at hv1
  obtain ⟨r', hr', cellV, g1, g2, g3, -⟩ := hv1
  have hcls := (hK.1.1 ci r hc).2
  obtain ⟨kA, comp, k1, k2, k3, -⟩ := (hK.1.2 t0 _ ht).2
  have hcomp : comp = E.1.1 ci := Option.some.inj (k3.symm.trans hcls.1)
  subst hcomp
  obtain ⟨kC, hkC, -⟩ := hcls.2
  refine W.aast hexec hb (wP_at.mp hP 0 (by decide)) (fun q h => by cases h) (fun h => by cases h) k1 k2 rfl hkC ⟨h0, by show _ < (arrV _ _ _).slots.size; rw [arrV_size]; exact hlt⟩ g1 (fun q h => by rw [g3] at h; cases h) (by rw [g2]; exact hkC) (by rw [g2]; exact va_assign hcls) rfl rfl hdg fun H1 e z oq => ?_
  refine kk H1 _ (wP_at.mpr fun _ _ => ?_) z oq (hS.put z oq hA)
  show H1[a]? = some (vp_cell _ _)
  rw [e]
  rw [vp_cell_q, vp_cell_q, arrV_store]
  congr 2
  funext q
  by_cases hq : q = i.toNatClampNeg
  · subst hq
    simp [updV, va_up, va_rf]
  · simp [updV, va_up, hq]
end WNEW2
/-- a constructor's start where arrays of objects are made -/
def wCq (E : wE) (ci : Nat) (fs : List Value) (a sz : Nat) (U : State) : Prop := U.heap.size = sz ∧ wP E 1 (fun _ => a) (fun _ => .inr (ci, fs)) U.heap ∧ wK E U ∧ va_AO RX3 U ∧ va_AO RX4 U
theorem wCq.blind {E : wE} {ci : Nat} {fs : List Value} {a sz : Nat} {av : List Value} : FrameBlind (va_Pc av (wCq E ci fs a sz)) := fun a U fr mk q => ⟨q.1, q.2.1, q.2.2.1, q.2.2.2.1.calling fr mk a, va_AO.moved (u := U) (U := U.calling fr mk a) (Vm.Alike.refl U.vm) q.2.2.2.2.1, va_AO.moved (u := U) (U := U.calling fr mk a) (Vm.Alike.refl U.vm) q.2.2.2.2.2⟩
theorem wCq.go {E : wE} {ci : Nat} {fs : List Value} {a : Nat} {s U : State} {H : Heap} {av : List Value} (hP : wP E 1 (fun _ => a) (fun _ => .inr (ci, fs)) H) (hK : wK E s) (h3 : va_AO RX3 s) (h4 : va_AO RX4 s) (hU : U.heap = H) (hW : s.WarmedH U.vm) : va_Pc av (wCq E ci fs a H.size) av.toArray U := ⟨rfl, by rw [hU], by rw [hU]; exact hP, hK.warm hW, h3.moved hW.alike, h4.moved hW.alike⟩
/-- two blocks of addresses behind each other -/
def gApp (n : Nat) (g g2 : Nat → Nat) : Nat → Nat := fun k => if k < n then g k else g2 (k - n)
theorem gApp_l {n : Nat} {g g2 : Nat → Nat} {k : Nat} (h : k < n) : gApp n g g2 k = g k := if_pos h
theorem gApp_r {n : Nat} {g g2 : Nat → Nat} (k : Nat) : gApp n g g2 (n + k) = g2 k := by
  unfold gApp
  rw [if_neg (by omega), Nat.add_sub_cancel_left]
theorem wI_app {n n2 M : Nat} {g g2 : Nat → Nat} (h : wI n g) (h2 : wI n2 g2) (hl : ∀ i, i < n → g i < M) (hr : ∀ j, j < n2 → M ≤ g2 j) : wI (n + n2) (gApp n g g2) := by
  intro i j hi hj e
  unfold gApp at e
  by_cases hin : i < n
  · by_cases hjn : j < n
    · rw [if_pos hin, if_pos hjn] at e
      exact h i j hin hjn e
    · rw [if_pos hin, if_neg hjn] at e
      have := hl i hin
      have := hr (j - n) (by omega)
      omega
  · by_cases hjn : j < n
    · rw [if_neg hin, if_pos hjn] at e
      have := hl j hjn
      have := hr (i - n) (by omega)
      omega
    · rw [if_neg hin, if_neg hjn] at e
      have := h2 (i - n) (j - n) (by omega) (by omega) e
      omega
theorem arrV_ext {cA : ClassId} {n : Nat} {f f2 : Nat → Value} (h : ∀ i, i < n → f i = f2 i) : arrV cA n f = arrV cA n f2 := by
  unfold arrV
  congr 1
  apply Array.ext
  · rw [Array.size_ofFn, Array.size_ofFn]
  · intro i h1 h2
    rw [Array.getElem_ofFn, Array.getElem_ofFn]
    exact h i (by rw [Array.size_ofFn] at h1; exact h1)
theorem wPq_ext {E : wE} {a : Nat} {cA : ClassId} {n : Nat} {f f2 : Nat → Option Nat} {H : Heap} (h : wP E 1 (fun _ => a) (fun _ => .inl (cA, n, .inr (.inr (.inr (.inr f))))) H) (he : ∀ i, i < n → f i = f2 i) : wP E 1 (fun _ => a) (fun _ => .inl (cA, n, .inr (.inr (.inr (.inr f2))))) H := by
  refine wP_at.mpr fun _ _ => ?_
  have h1 : H[a]? = some (vp_cell cA (n, .inr (.inr (.inr (.inr f))))) := wP_at.mp h 0 (by decide)
  show H[a]? = some (vp_cell cA (n, .inr (.inr (.inr (.inr f2)))))
  rw [h1, vp_cell_q, vp_cell_q, arrV_ext (fun i hi => by rw [he i hi])]
theorem rcT_lt {E : wE} {g : Nat → Nat} {li : Bool} {q : RS} {H : Heap} (h : rcT E g li q H) : ∀ j, j < 3 → g j < H.size := by
  obtain ⟨_, lf, _, hP⟩ := h
  exact fun j hj => hP.lt hj
theorem rcT_cg {E : wE} {g g2 : Nat → Nat} {li : Bool} {q : RS} {H : Heap} (h : rcT E g li q H) (hg : ∀ k, k < 3 → g2 k = g k) : rcT E g2 li q H := by
  obtain ⟨h1, lf, h2, hP⟩ := h
  refine ⟨h1, lf, h2, hP.cg hg fun k hk => ?_⟩
  match k, hk with
  | 0, _ => unfold rcF; simp only []; rw [hg 1 (by decide), hg 2 (by decide)]
  | 1, _ => rfl
  | 2, _ => rfl
