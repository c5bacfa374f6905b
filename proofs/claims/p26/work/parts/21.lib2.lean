/-! writes that tell that every other cell stays -/
theorem wP.keep {E : wE} {n : Nat} {g : Nat → Nat} {f : Nat → va_E} {H H1 : Heap} (h : wP E n g f H) (hk : ∀ k, k < n → H1[g k]? = H[g k]?) : wP E n g f H1 :=
  wP_at.mpr fun k hkn => (wP_at.mp h k hkn).kept (hk k hkn)
section WPUTO
variable {p : Program} {l : Launch} {e : Env} {R : Room} {s : State} {m : MethodId} {args : Array Value} {below : List Frame} {meth : Method} {c : Code} {H : Heap} {locs : List Loc} {cells slots : Nat} {Q : State → Prop} {cc : ByteArray} {pc : Nat} {ls : Array Slot} {rest : List Value} {A : Nat → Prop} {H0 : Heap} {E : wE} {n : Nat} {ga : Nat → Nat} {f : Nat → va_E}
theorem w_putO (hexec : p.tables.exec = Jvm.exec) (hb : c.code = cc) {own ref C : String} {T : u_T} {N ci index : Nat} {Ts : List Cond} (hts : ∀ w ∈ Ts, w.before args s = true) (hin : ∀ w ∈ u_ws C T N, w ∈ Ts) (ty0 : Nat → FieldType) (hty : ∀ k, k < N → parseFieldDescriptor (T k).2.2.1 = some (ty0 k)) (hnm : ∀ a, a < N → ∀ b, b < N → a ≠ b → (T a).2.1 ≠ (T b).2.1) (hown : s.vm.findClass own = some m.cls) (hK : wK E s) (hP : wP E n ga f H) (hI : wI n ga) (hA : ∀ k, k < n → A (ga k)) (hS0 : va_S A H0 H locs) (q0 : Nat) (hq : q0 < n) {fs : List Value} (he : f q0 = .inr (ci, fs)) (hc : vwCl[ci]? = some (C, T, N)) (k : Nat) (hk : k < N) (hlink : (Cond.fieldLink own index ref (T k).2.1 (T k).2.2.1).before args s = true) (hsame : ∀ x, s.fieldFound? (T k).1 (T k).2.1 (T k).2.2.1 = some x → s.fieldFound? ref (T k).2.1 (T k).2.2.1 = some x) (hfin : (T k).2.2.2 = false) {ty : FieldType} {v : Value} (hd : parseFieldDescriptor (T k).2.2.1 = some ty) (hn : narrow ty v = v) (hfit : fits ty v = true) (hl : k < fs.length)
    (hdg : decode cc pc = .ok (.putfield index, 3)) (f2 : Nat → va_E) (hf1 : f2 q0 = .inr (ci, fs.set k v)) (hf2 : ∀ j, j < n → j ≠ q0 → f2 j = f j) (kk : ∀ (H1 : Heap) (locs1 : List Loc), wP E n ga f2 H1 → (∀ q : Nat, q ≠ ga q0 → H1[q]? = H[q]?) → va_S A H0 H1 locs1 → W p l e R s m args below meth c H1 locs1 cells slots Q (F0 m (pc + 3) ls rest)) : W p l e R s m args below meth c H locs cells slots Q (F0 m pc ls (v :: .ref (ga q0) :: rest)) := by
  have he' : (wd n ga f)[q0]? = some (ga q0, .inr (ci, fs)) := by rw [wd_get hq, he]
  have hap := va_apart (own := own) hts hin ty0 hty hnm hK.1 hc
  obtain ⟨r, h1, cell, q1, q2, q3, q4⟩ := hP q0 _ he'
  have hr : r = (C, T, N) := Option.some.inj (h1.symm.trans hc)
  subst hr
  obtain ⟨hS, hfc, kC, hkC, hkind⟩ := hK.1.1 ci _ hc
  obtain ⟨cf, kf, fi, fd, hi, hsl⟩ := hS k hk
  have hlay := hts _ (hin _ (u_in_lay hk))
  unfold u_lay at hlay
  rw [if_neg (by rw [hfin]; decide)] at hlay
  have hst := (u_facts hfc hkC (u_lays hts hin hk) hi).1
  have h6 := u_store hfc hkC hkind hlay hi hd hn hfit
  refine W.putK hexec hb (f := fd) ⟨hown, hlink, ⟨_, _, _, hsame _ hi⟩, hst⟩ (by rw [q2]; exact h6) q1 q3 (by rw [hsl]; exact k2_hasslot (q4 k hk)) rfl rfl hdg fun H' e1 e2 e3 => ?_
  rw [hsl] at e1 ⊢
  have hz : va_P E.1 vwCl ((wd n ga f).set q0 (ga q0, .inr (ci, fs.set k v))) H' := hP.set (wd_D hI hA) he' ⟨_, hc, t_OB.to (V := updV (vp_V fs) k v) ⟨_, e1, q2, q3, t_set q4 hap hk v⟩ (fun j _ => vp_updV_set hl v j)⟩ e3
  rw [wd_set hf1 hf2] at hz
  exact kk H' _ hz e3 (hS0.put e2 e3 (hA q0 hq))
theorem w_putNO (hexec : p.tables.exec = Jvm.exec) (hb : c.code = cc) {own ref C host : String} {T : u_T} {N ci index : Nat} {Ts : List Cond} (hts : ∀ w ∈ Ts, w.before args s = true) (hin : ∀ w ∈ u_ws C T N, w ∈ Ts) (ty0 : Nat → FieldType) (hty : ∀ k, k < N → parseFieldDescriptor (T k).2.2.1 = some (ty0 k)) (hnm : ∀ a, a < N → ∀ b, b < N → a ≠ b → (T a).2.1 ≠ (T b).2.1) (hown : s.vm.findClass own = some m.cls) (hK : wK E s) (hP : wP E n ga f H) (hI : wI n ga) (hA : ∀ k, k < n → A (ga k)) (hS0 : va_S A H0 H locs) (q0 : Nat) (hq : q0 < n) {fs : List Value} (he : f q0 = .inr (ci, fs)) (hc : vwCl[ci]? = some (C, T, N)) (k : Nat) (hk : k < N) (hlink : Cond.fieldLinkNest own index ref (T k).2.1 (T k).2.2.1 host ∈ wNest) (hsame : ∀ x, s.fieldFound? (T k).1 (T k).2.1 (T k).2.2.1 = some x → s.fieldFound? ref (T k).2.1 (T k).2.2.1 = some x) (hfin : (T k).2.2.2 = false) {ty : FieldType} {v : Value} (hd : parseFieldDescriptor (T k).2.2.1 = some ty) (hn : narrow ty v = v) (hfit : fits ty v = true) (hl : k < fs.length)
    (hdg : decode cc pc = .ok (.putfield index, 3)) (f2 : Nat → va_E) (hf1 : f2 q0 = .inr (ci, fs.set k v)) (hf2 : ∀ j, j < n → j ≠ q0 → f2 j = f j) (kk : ∀ (H1 : Heap) (locs1 : List Loc), wP E n ga f2 H1 → (∀ q : Nat, q ≠ ga q0 → H1[q]? = H[q]?) → va_S A H0 H1 locs1 → W p l e R s m args below meth c H1 locs1 cells slots Q (F0 m (pc + 3) ls rest)) : W p l e R s m args below meth c H locs cells slots Q (F0 m pc ls (v :: .ref (ga q0) :: rest)) := by
  have he' : (wd n ga f)[q0]? = some (ga q0, .inr (ci, fs)) := by rw [wd_get hq, he]
  have hap := va_apart (own := own) hts hin ty0 hty hnm hK.1 hc
  obtain ⟨r, h1, cell, q1, q2, q3, q4⟩ := hP q0 _ he'
  have hr : r = (C, T, N) := Option.some.inj (h1.symm.trans hc)
  subst hr
  obtain ⟨hS, hfc, kC, hkC, hkind⟩ := hK.1.1 ci _ hc
  obtain ⟨cf, kf, fi, fd, hi, hsl⟩ := hS k hk
  have hlay := hts _ (hin _ (u_in_lay hk))
  unfold u_lay at hlay
  rw [if_neg (by rw [hfin]; decide)] at hlay
  have hst := (u_facts hfc hkC (u_lays hts hin hk) hi).1
  have h6 := u_store hfc hkC hkind hlay hi hd hn hfit
  refine va_WputK hexec hb (f := fd) hown (va_Nw.use (wNest_tab hlink) (hK.2 _ hlink)) (hsame _ hi) hst (by rw [q2]; exact h6) q1 q3 (by rw [hsl]; exact k2_hasslot (q4 k hk)) rfl rfl hdg fun H' e1 e2 e3 => ?_
  rw [hsl] at e1 ⊢
  have hz : va_P E.1 vwCl ((wd n ga f).set q0 (ga q0, .inr (ci, fs.set k v))) H' := hP.set (wd_D hI hA) he' ⟨_, hc, t_OB.to (V := updV (vp_V fs) k v) ⟨_, e1, q2, q3, t_set q4 hap hk v⟩ (fun j _ => vp_updV_set hl v j)⟩ e3
  rw [wd_set hf1 hf2] at hz
  exact kk H' _ hz e3 (hS0.put e2 e3 (hA q0 hq))
theorem w_iastO (hexec : p.tables.exec = Jvm.exec) (hb : c.code = cc) (hK : wK E s) (hP : wP E n ga f H) (hI : wI n ga) (hA : ∀ k, k < n → A (ga k)) (hS : va_S A H0 H locs) (q0 : Nat) (hq : q0 < n) {z : Nat} {x : Nat → Int32} (ha : f q0 = .inl (E.2.1, z, .inl x)) {i v : Int32} (hin : vp_in i z) (hdg : decode cc pc = .ok (.iastore, 1)) (f2 : Nat → va_E) (hf1 : f2 q0 = .inl (E.2.1, z, .inl (upd x i.toNatClampNeg v))) (hf2 : ∀ j, j < n → j ≠ q0 → f2 j = f j)
    (kk : ∀ (H1 : Heap) (locs1 : List Loc), wP E n ga f2 H1 → (∀ q : Nat, q ≠ ga q0 → H1[q]? = H[q]?) → va_S A H0 H1 locs1 → W p l e R s m args below meth c H1 locs1 cells slots Q (F0 m (pc + 1) ls rest)) : W p l e R s m args below meth c H locs cells slots Q (F0 m pc ls (.int v :: .int i :: .ref (ga q0) :: rest)) := by
  have ha' : (wd n ga f)[q0]? = some (ga q0, .inl (E.2.1, z, .inl x)) := by rw [wd_get hq, ha]
  refine W.iast hexec hb (hP q0 _ ha') ((hK.1.2 0 _ rfl).1 z (fun j => .int (x j))) (fun q => by cases q) (by show ¬ (i < 0 ∨ (arrV _ _ _).slots.size ≤ _); rw [arrV_size]; exact hin) rfl rfl hdg fun H1 e1 z1 oq => ?_
  have hz : va_P E.1 vwCl ((wd n ga f).set q0 (ga q0, .inl (E.2.1, z, .inl (upd x i.toNatClampNeg v)))) H1 := by
    refine hP.set (wd_D hI hA) ha' ?_ oq
    show H1[ga q0]? = some (vp_cell _ _)
    rw [e1, vp_cell_i, vp_cell_i, arrV_store]
    congr 2
    funext q
    by_cases hq2 : q = i.toNatClampNeg
    · subst hq2
      simp [updV, upd]
    · simp [updV, upd, hq2]
  rw [wd_set hf1 hf2] at hz
  exact kk H1 _ hz oq (hS.put z1 oq (hA q0 hq))
theorem w_aldq (hexec : p.tables.exec = Jvm.exec) (hb : c.code = cc) (hK : wK E s) (hP : wP E n ga f H) (q0 : Nat) (hq : q0 < n) (t0 : Nat) {cA : ClassId} {C : String} {z : Nat} {x : Nat → Option Nat} (ha : f q0 = .inl (cA, z, .inr (.inr (.inr (.inr x))))) (ht : (tysE E)[t0]? = some (cA, .object C)) {i : Int32} (hin : vp_in i z) (hdg : decode cc pc = .ok (.aaload, 1))
    (kk : W p l e R s m args below meth c H locs cells slots Q (F0 m (pc + 1) ls (va_rf (x i.toNatClampNeg) :: rest))) : W p l e R s m args below meth c H locs cells slots Q (F0 m pc ls (.int i :: .ref (ga q0) :: rest)) :=
  va_aldq hexec hb hK.1 hP q0 t0 (by rw [wd_get hq, ha]) ht hin hdg kk
theorem w_alenq (hexec : p.tables.exec = Jvm.exec) (hb : c.code = cc) (hK : wK E s) (hP : wP E n ga f H) (q0 : Nat) (hq : q0 < n) (t0 : Nat) {cA : ClassId} {ty : FieldType} {z : Nat} {x : (Nat → Int32) ⊕ (Nat → Int64) ⊕ (Nat → UInt32) ⊕ (Nat → UInt64) ⊕ (Nat → Option Nat)} (ha : f q0 = .inl (cA, z, x)) (ht : (tysE E)[t0]? = some (cA, ty)) {v : Int32} (hv : Int32.ofNat z = v) (hdg : decode cc pc = .ok (.arraylength, 1))
    (kk : W p l e R s m args below meth c H locs cells slots Q (F0 m (pc + 1) ls (.int v :: rest))) : W p l e R s m args below meth c H locs cells slots Q (F0 m pc ls (.ref (ga q0) :: rest)) :=
  va_alen hexec hb hK.1 hP q0 t0 (x := (z, x)) (by rw [wd_get hq, ha]) ht hv hdg kk
end WPUTO
