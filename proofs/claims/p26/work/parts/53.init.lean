/-! new cells: worlds of one cell -/
section WNEW
variable {p : Program} {l : Launch} {e : Env} {R : Room} {s : State} {m : MethodId} {args : Array Value} {below : List Frame} {meth : Method} {c : Code} {H : Heap} {locs : List Loc} {cells slots : Nat} {Q : State → Prop} {cc : ByteArray} {pc : Nat} {ls : Array Slot} {rest : List Value} {A : Nat → Prop} {H0 : Heap} {E : wE}
theorem w_put1 (hexec : p.tables.exec = Jvm.exec) (hb : c.code = cc) {own ref C : String} {T : u_T} {N ci index : Nat} {Ts : List Cond} (hts : ∀ w ∈ Ts, w.before args s = true) (hin : ∀ w ∈ u_ws C T N, w ∈ Ts) (ty0 : Nat → FieldType) (hty : ∀ k, k < N → parseFieldDescriptor (T k).2.2.1 = some (ty0 k)) (hnm : ∀ a, a < N → ∀ b, b < N → a ≠ b → (T a).2.1 ≠ (T b).2.1) (hown : s.vm.findClass own = some m.cls) (hK : wK E s) {a : Nat} {fs : List Value} (hP : wP E 1 (fun _ => a) (fun _ => .inr (ci, fs)) H) (hA : A a) (hS0 : va_S A H0 H locs) (hc : vwCl[ci]? = some (C, T, N)) (k : Nat) (hk : k < N) (hlink : (Cond.fieldLink own index ref (T k).2.1 (T k).2.2.1).before args s = true) (hsame : ∀ x, s.fieldFound? (T k).1 (T k).2.1 (T k).2.2.1 = some x → s.fieldFound? ref (T k).2.1 (T k).2.2.1 = some x) (hfin : (T k).2.2.2 = false) {ty : FieldType} {v : Value} (hd : parseFieldDescriptor (T k).2.2.1 = some ty) (hn : narrow ty v = v) (hfit : fits ty v = true) (hl : k < fs.length)
    (hdg : decode cc pc = .ok (.putfield index, 3)) (kk : ∀ (H1 : Heap) (locs1 : List Loc), wP E 1 (fun _ => a) (fun _ => .inr (ci, fs.set k v)) H1 → H1.size = H.size → (∀ q : Nat, q ≠ a → H1[q]? = H[q]?) → va_S A H0 H1 locs1 → W p l e R s m args below meth c H1 locs1 cells slots Q (F0 m (pc + 3) ls rest)) : W p l e R s m args below meth c H locs cells slots Q (F0 m pc ls (v :: .ref a :: rest)) := by
  have hap := va_apart (own := own) hts hin ty0 hty hnm hK.1 hc
  obtain ⟨r, h1, cell, q1, q2, q3, q4⟩ := wP_at.mp hP 0 (by decide)
  have hr : r = (C, T, N) := Option.some.inj (h1.symm.trans hc)
  subst hr
  obtain ⟨hS, hfc, kC, hkC, hkind⟩ := hK.1.1 ci _ hc
  obtain ⟨cf, kf, fi, fd, hi, hsl⟩ := hS k hk
  have hlay := hts _ (hin _ (u_in_lay hk))
  unfold u_lay at hlay
  rw [if_neg (by rw [hfin]; decide)] at hlay
  have hst := (u_facts hfc hkC (u_lays hts hin hk) hi).1
  have h6 := u_store hfc hkC hkind hlay hi hd hn hfit
  refine W.putK hexec hb (f := fd) ⟨hown, hlink, ⟨_, _, _, hsame _ hi⟩, hst⟩ (by rw [q2]; exact h6) q1 q3 (by rw [hsl]; exact k2_hasslot (q4 k hk)) rfl rfl hdg fun H' e1 e2 e3 => ?_
  rw [hsl] at e1 ⊢
  refine kk H' _ (wP_at.mpr fun _ _ => ?_) e2 e3 (hS0.put e2 e3 hA)
  exact ⟨_, hc, t_OB.to (V := updV (vp_V fs) k v) ⟨_, e1, q2, q3, t_set q4 hap hk v⟩ (fun j _ => vp_updV_set hl v j)⟩
theorem w_putF1 (hexec : p.tables.exec = Jvm.exec) (hb : c.code = cc) {own ref C : String} {T : u_T} {N ci index : Nat} {Ts : List Cond} (hts : ∀ w ∈ Ts, w.before args s = true) (hin : ∀ w ∈ u_ws C T N, w ∈ Ts) (ty0 : Nat → FieldType) (hty : ∀ k, k < N → parseFieldDescriptor (T k).2.2.1 = some (ty0 k)) (hnm : ∀ a, a < N → ∀ b, b < N → a ≠ b → (T a).2.1 ≠ (T b).2.1) (hown : s.vm.findClass own = some m.cls) (hK : wK E s) {a : Nat} {fs : List Value} (hP : wP E 1 (fun _ => a) (fun _ => .inr (ci, fs)) H) (hA : A a) (hS0 : va_S A H0 H locs) (hc : vwCl[ci]? = some (C, T, N)) (k : Nat) (hk : k < N) (hlink : (Cond.fieldLink own index ref (T k).2.1 (T k).2.2.1).before args s = true) (hsame : ∀ x, s.fieldFound? (T k).1 (T k).2.1 (T k).2.2.1 = some x → s.fieldFound? ref (T k).2.1 (T k).2.2.1 = some x) (hfin : (T k).2.2.2 = true) (hin2 : meth.name = "<init>") (hdecl : (T k).1 = own) {ty : FieldType} {v : Value} (hd : parseFieldDescriptor (T k).2.2.1 = some ty) (hn : narrow ty v = v) (hfit : fits ty v = true) (hl : k < fs.length)
    (hdg : decode cc pc = .ok (.putfield index, 3)) (kk : ∀ (H1 : Heap) (locs1 : List Loc), wP E 1 (fun _ => a) (fun _ => .inr (ci, fs.set k v)) H1 → H1.size = H.size → (∀ q : Nat, q ≠ a → H1[q]? = H[q]?) → va_S A H0 H1 locs1 → W p l e R s m args below meth c H1 locs1 cells slots Q (F0 m (pc + 3) ls rest)) : W p l e R s m args below meth c H locs cells slots Q (F0 m pc ls (v :: .ref a :: rest)) := by
  have hap := va_apart (own := own) hts hin ty0 hty hnm hK.1 hc
  obtain ⟨r, h1, cell, q1, q2, q3, q4⟩ := wP_at.mp hP 0 (by decide)
  have hr : r = (C, T, N) := Option.some.inj (h1.symm.trans hc)
  subst hr
  obtain ⟨hS, hfc, kC, hkC, hkind⟩ := hK.1.1 ci _ hc
  obtain ⟨cf, kf, fi, fd, hi, hsl⟩ := hS k hk
  have hlay := hts _ (hin _ (u_in_lay hk))
  unfold u_lay at hlay
  rw [if_pos hfin] at hlay
  have hst := (u_facts hfc hkC (u_lays hts hin hk) hi).1
  have hcf : m.cls = cf := by
    obtain ⟨_, _, c', _, _, _, -, -, hf', -, -, -, hown2, -⟩ := Cond.laysFinal_spec hlay
    have e1 : c' = cf := by have := hi.symm.trans hf'; simp at this; exact this.1.symm
    rw [hdecl] at hown2
    rw [← e1]; exact Option.some.inj (hown.symm.trans hown2)
  have h6 := u_fits hfc hkC hkind (Or.inr hlay) hi hd hn hfit
  refine W.putFinK hexec hb hown hlink (hsame _ hi) hst hcf hin2 (by rw [q2]; exact h6) q1 q3 (by rw [hsl]; exact k2_hasslot (q4 k hk)) rfl rfl hdg fun H' e1 e2 e3 => ?_
  rw [hsl] at e1 ⊢
  refine kk H' _ (wP_at.mpr fun _ _ => ?_) e2 e3 (hS0.put e2 e3 hA)
  exact ⟨_, hc, t_OB.to (V := updV (vp_V fs) k v) ⟨_, e1, q2, q3, t_set q4 hap hk v⟩ (fun j _ => vp_updV_set hl v j)⟩
theorem w_newi (hexec : p.tables.exec = Jvm.exec) (hb : c.code = cc) (harr : (Cond.arrayClass .int).before args s = true) (hK : wK E s) (hS : va_S A H0 H locs) {n : Int32} (N' : Nat) (hn : ¬ n < 0) (hN : n.toNatClampNeg = N') (hbytes : N' * 4 ≤ 536870912) (hcells : cells + 1 ≤ R.cells) (hslots : slots + N' ≤ R.slots) (hdg : decode cc pc = .ok (.newarray .int, 2))
    (kk : ∀ (H1 : Heap), wP E 1 (fun _ => H.size) (fun _ => .inl (E.2.1, N', .inl (fun _ => 0))) H1 → H1.size = H.size + 1 → (∀ q : Nat, q < H.size → H1[q]? = H[q]?) → va_S A H0 H1 locs → W p l e R s m args below meth c H1 locs (cells + 1) (slots + N') Q (F0 m (pc + 2) ls (.ref H.size :: rest))) : W p l e R s m args below meth c H locs cells slots Q (F0 m pc ls (.int n :: rest)) := by
  refine va_newaK (atype := .int) hexec hb harr rfl hdg rfl hn hN hbytes hcells hslots rfl fun H1 cA e1 z1 o1 hAr hNm => ?_
  have hc2 : s.vm.findClass ("[" ++ FieldType.int.toString) = some E.2.1 := (hK.1.2 0 _ rfl).2
  have hc3 : cA = E.2.1 := Option.some.inj (hNm.symm.trans hc2)
  subst hc3
  refine kk H1 (wP_at.mpr fun _ _ => ?_) z1 o1 ⟨Nat.le_trans hS.1 (by omega), fun x h1 h2 => (o1 x (Nat.lt_of_lt_of_le h1 hS.1)).trans (hS.2.1 x h1 h2), hS.2.2⟩
  show H1[H.size]? = some (vp_cell _ _)
  rw [e1, vp_cell_i]
  rfl
end WNEW
/-- a constructor's start: the size of the heap, the object as new made it -/
def wC (E : wE) (ci : Nat) (fs : List Value) (a sz : Nat) (U : State) : Prop := U.heap.size = sz ∧ wP E 1 (fun _ => a) (fun _ => .inr (ci, fs)) U.heap ∧ wK E U
theorem wC.blind {E : wE} {ci : Nat} {fs : List Value} {a sz : Nat} {av : List Value} : FrameBlind (va_Pc av (wC E ci fs a sz)) := fun _ U fr mk q => ⟨q.1, q.2.1, q.2.2.1, q.2.2.2.calling fr mk _⟩
theorem wC.go {E : wE} {ci : Nat} {fs : List Value} {a : Nat} {s U : State} {H : Heap} {av : List Value} (hP : wP E 1 (fun _ => a) (fun _ => .inr (ci, fs)) H) (hK : wK E s) (hU : U.heap = H) (hW : s.WarmedH U.vm) : va_Pc av (wC E ci fs a H.size) av.toArray U := ⟨rfl, by rw [hU], by rw [hU]; exact hP, hK.warm hW⟩
/-- what a constructor may touch -/
def cAt (a sz : Nat) : Nat → Prop := fun q => q = a ∨ sz ≤ q
/-- the object and what came with it -/
def wB (a sz n : Nat) (P : (Nat → Nat) → Prop) : Prop := ∃ g : Nat → Nat, g 0 = a ∧ (∀ k, 0 < k → k < n → sz ≤ g k) ∧ wI n g ∧ P g
/-- the receiver as new -/
def rs0 : RS := (0, (fun _ => 0), [], 0, 0, 0)
def g2 (a b : Nat) : Nat → Nat := fun k => match k with
  | 0 => a
  | _ => b
def g3 (a b c : Nat) : Nat → Nat := fun k => match k with
  | 0 => a
  | 1 => b
  | _ => c
theorem g2_le {a b sz : Nat} (h : sz ≤ b) : ∀ k, 0 < k → k < 2 → sz ≤ g2 a b k := by
  intro k h1 h2
  match k, h1, h2 with
  | 1, _, _ => exact h
theorem g3_le {a b c sz : Nat} (h : sz ≤ b) (h2 : sz ≤ c) : ∀ k, 0 < k → k < 3 → sz ≤ g3 a b c k := by
  intro k h3 h4
  match k, h3, h4 with
  | 1, _, _ => exact h
  | 2, _, _ => exact h2
theorem wI_inc {n : Nat} {g : Nat → Nat} (h : ∀ i j, i < j → j < n → g i < g j) : wI n g := by
  intro i j hi hj e
  rcases Nat.lt_trichotomy i j with q | q | q
  · exact absurd e (Nat.ne_of_lt (h i j q hj))
  · exact q
  · exact absurd e (Nat.ne_of_gt (h j i q hi))
theorem wI_2 {a b : Nat} (h : a < b) : wI 2 (g2 a b) := wI_inc (by
  intro i j hij hj
  obtain ⟨rfl, rfl⟩ : i = 0 ∧ j = 1 := by omega
  exact h)
theorem wI_3 {a b c : Nat} (h : a < b) (h2 : b < c) : wI 3 (g3 a b c) := wI_inc (by
  intro i j hij hj
  rcases (show (i = 0 ∧ j = 1) ∨ (i = 0 ∧ j = 2) ∨ (i = 1 ∧ j = 2) by omega) with ⟨rfl, rfl⟩ | ⟨rfl, rfl⟩ | ⟨rfl, rfl⟩
  · exact h
  · exact Nat.lt_trans h h2
  · exact h2)
theorem wP2 {E : wE} {a b : Nat} {x y : va_E} {H : Heap} {f : Nat → va_E} (h0 : wP E 1 (fun _ => a) (fun _ => x) H) (h1 : wP E 1 (fun _ => b) (fun _ => y) H) (e0 : f 0 = x) (e1 : f 1 = y) : wP E 2 (g2 a b) f H := by
  refine wP_at.mpr fun k hk => ?_
  match k, hk with
  | 0, _ => rw [e0]; exact wP_at.mp h0 0 (by decide)
  | 1, _ => rw [e1]; exact wP_at.mp h1 0 (by decide)
theorem wP3 {E : wE} {a b c : Nat} {x y w : va_E} {H : Heap} {f : Nat → va_E} (h0 : wP E 1 (fun _ => a) (fun _ => x) H) (h1 : wP E 1 (fun _ => b) (fun _ => y) H) (h2 : wP E 1 (fun _ => c) (fun _ => w) H) (e0 : f 0 = x) (e1 : f 1 = y) (e2 : f 2 = w) : wP E 3 (g3 a b c) f H := by
  refine wP_at.mpr fun k hk => ?_
  match k, hk with
  | 0, _ => rw [e0]; exact wP_at.mp h0 0 (by decide)
  | 1, _ => rw [e1]; exact wP_at.mp h1 0 (by decide)
  | 2, _ => rw [e2]; exact wP_at.mp h2 0 (by decide)

set_option maxHeartbeats 4000000 in
set_option maxRecDepth 100000 in
theorem c_X2_init (l : Launch) (E : wE) (a sz : Nat) : Met l yX2_init wsX2_init ({ frames := 1, cells := 0, slots := 0, locals := 12 }) (va_Pc [.ref a] (wC E 2 [.int 0, .int 0, .int 0] a sz)) (va_Qv (fun (_ : Unit) => True) (fun _ t => wP E 1 (fun _ => a) (paF (-1) 0 0) t.heap) (cAt a sz)) 0 0 (cAt a sz) := by
  refine Met.ofW (cc := cX2_init) (maxL := 1) (ret := none) (by decide) rfl ?_
  intro p e s m args below meth c s₁ B hml hv
  obtain ⟨rfl, hsz, hP, hK⟩ := hv
  have hx := B.exec
  have hb := B.bytes
  have hr := B.returns
  have hts := atoms_spec (ws := wsX2_init) B.pre
  have hown : s.vm.findClass RX2 = some m.cls := findClass_of_methodNamed B.named
  have hlocks := B.notSynchronized
  have hnm : meth.name = "<init>" := (name_of_methodNamed B.named B.method).1
  subst hsz
  have hA : ∀ q, s.heap.size ≤ q → cAt a s.heap.size q := fun q h => Or.inr h
  have hAa : cAt a s.heap.size a := Or.inl rfl
  have hS : va_S (cAt a s.heap.size) s.heap s.heap [] := va_S.rf
  have hz0 : s.heap.size ≤ s.heap.size := Nat.le_refl _
  have hin2 : ∀ w ∈ wsX20, w ∈ wsX2_init := by decide +kernel
  have hl := lv_entry ([.ref a]) (n := 1) (Nat.le_of_ble_eq_true rfl)
  rw [lg_entry_eq]
  generalize (lg_sl ([.ref a]) ++ List.replicate (1 - (lg_sl ([.ref a])).length) Slot.unset).toArray = ls at hl ⊢
  have hl : lv_has ls 1 [(0, .ref a)] := hl
  refine lv_aload_n hx hb dX2_init_0 rfl (lv_at hl 0 rfl) ?_
  refine W.objInit hx hb hown (hts (.methodLink RX2 3 objectInit) (List.mem_of_getElem? (i := 1) rfl)) (hts (.instanceMethod objectInit) (List.mem_of_getElem? (i := 2) rfl)) (hts (.code objectInit ⟨#[0xb1]⟩ 1 none) (List.mem_of_getElem? (i := 3) rfl)) rfl (by rw [hml]; exact hl.1) rfl dX2_init_1 (Nat.le_of_ble_eq_true rfl) (Nat.le_of_ble_eq_true rfl) ?_
  refine W.eq (g2 := F0 m 4 ls []) rfl ?_
  refine lv_aload_n hx hb dX2_init_4 rfl (lv_at hl 0 rfl) ?_
  refine lv_iconst (v := (-1)) hx hb dX2_init_5 (by decide) ?_
  refine w_put1 (C := RX2) (T := TX2) (N := 3) (ci := 2) (v := .int (-1)) (ty := .int) hx hb hts hin2 tyX2 tyX2_ok nmX2 hown hK hP hAa hS rfl 0 (by decide) (hts (.fieldLink RX2 9 "MixedBlocks$Part" "first" "I") (List.mem_of_getElem? (i := 4) rfl)) (fun _ h9 => h9) rfl (by decide +kernel) rfl rfl (Nat.le_of_ble_eq_true rfl) dX2_init_6 (fun H_6 locs hP hz_6 hO_6 hS => ?_)
  have hz0 : s.heap.size ≤ H_6.size := by omega
  refine lv_aload_n hx hb dX2_init_9 rfl (lv_at hl 0 rfl) ?_
  refine lv_iconst (v := 0) hx hb dX2_init_10 (by decide) ?_
  refine w_put1 (C := RX2) (T := TX2) (N := 3) (ci := 2) (v := .int 0) (ty := .int) hx hb hts hin2 tyX2 tyX2_ok nmX2 hown hK hP hAa hS rfl 1 (by decide) (hts (.fieldLink RX2 15 "MixedBlocks$Part" "number" "I") (List.mem_of_getElem? (i := 5) rfl)) (fun _ h9 => h9) rfl (by decide +kernel) rfl rfl (Nat.le_of_ble_eq_true rfl) dX2_init_11 (fun H_11 locs hP hz_11 hO_11 hS => ?_)
  have hz0 : s.heap.size ≤ H_11.size := by omega
  refine lv_aload_n hx hb dX2_init_14 rfl (lv_at hl 0 rfl) ?_
  refine lv_iconst (v := 0) hx hb dX2_init_15 (by decide) ?_
  refine w_put1 (C := RX2) (T := TX2) (N := 3) (ci := 2) (v := .int 0) (ty := .int) hx hb hts hin2 tyX2 tyX2_ok nmX2 hown hK hP hAa hS rfl 2 (by decide) (hts (.fieldLink RX2 18 "MixedBlocks$Part" "digits" "I") (List.mem_of_getElem? (i := 6) rfl)) (fun _ h9 => h9) rfl (by decide +kernel) rfl rfl (Nat.le_of_ble_eq_true rfl) dX2_init_16 (fun H_16 locs hP hz_16 hO_16 hS => ?_)
  have hz0 : s.heap.size ≤ H_16.size := by omega
  exact W.vret hx hb hr (fun t ht hW => ⟨⟨(), rfl, trivial, (by show wP E 1 (fun _ => a) (paF (-1) 0 0) t.heap; rw [ht]; exact hP)⟩, hS.F ht⟩) hS.2.2 dX2_init_19
set_option maxHeartbeats 4000000 in
set_option maxRecDepth 100000 in
theorem c_X0_init (l : Launch) (E : wE) (a sz : Nat) : Met l yX0_init wsX0_init ({ frames := 1, cells := 1, slots := 12, locals := 12 }) (va_Pc [.ref a] (wC E 0 [.null, .int 0] a sz)) (va_Qv (fun (_ : Unit) => True) (fun _ t => wB a sz 2 (fun g => elP E g (fun _ => 0, 0) t.heap)) (cAt a sz)) 1 12 (cAt a sz) := by
  refine Met.ofW (cc := cX0_init) (maxL := 1) (ret := none) (by decide) rfl ?_
  intro p e s m args below meth c s₁ B hml hv
  obtain ⟨rfl, hsz, hP, hK⟩ := hv
  have hx := B.exec
  have hb := B.bytes
  have hr := B.returns
  have hts := atoms_spec (ws := wsX0_init) B.pre
  have hown : s.vm.findClass RX0 = some m.cls := findClass_of_methodNamed B.named
  have hlocks := B.notSynchronized
  have hnm : meth.name = "<init>" := (name_of_methodNamed B.named B.method).1
  subst hsz
  have hA : ∀ q, s.heap.size ≤ q → cAt a s.heap.size q := fun q h => Or.inr h
  have hAa : cAt a s.heap.size a := Or.inl rfl
  have hS : va_S (cAt a s.heap.size) s.heap s.heap [] := va_S.rf
  have hz0 : s.heap.size ≤ s.heap.size := Nat.le_refl _
  have hin0 : ∀ w ∈ wsX00, w ∈ wsX0_init := by decide +kernel
  have hl := lv_entry ([.ref a]) (n := 1) (Nat.le_of_ble_eq_true rfl)
  rw [lg_entry_eq]
  generalize (lg_sl ([.ref a]) ++ List.replicate (1 - (lg_sl ([.ref a])).length) Slot.unset).toArray = ls at hl ⊢
  have hl : lv_has ls 1 [(0, .ref a)] := hl
  refine lv_aload_n hx hb dX0_init_0 rfl (lv_at hl 0 rfl) ?_
  refine W.objInit hx hb hown (hts (.methodLink RX0 3 objectInit) (List.mem_of_getElem? (i := 1) rfl)) (hts (.instanceMethod objectInit) (List.mem_of_getElem? (i := 2) rfl)) (hts (.code objectInit ⟨#[0xb1]⟩ 1 none) (List.mem_of_getElem? (i := 3) rfl)) rfl (by rw [hml]; exact hl.1) rfl dX0_init_1 (Nat.le_of_ble_eq_true rfl) (Nat.le_of_ble_eq_true rfl) ?_
  refine W.eq (g2 := F0 m 4 ls []) rfl ?_
  refine lv_aload_n hx hb dX0_init_4 rfl (lv_at hl 0 rfl) ?_
  refine lv_bipush (v := 12) hx hb dX0_init_5 (by decide) ?_
  have hlt_1 : a < s.heap.size := hP.lt (k := 0) (by decide)
  refine w_newi hx hb (hts (.arrayClass .int) (List.mem_of_getElem? (i := 4) rfl)) hK hS 12 (by decide) (by decide) (by decide) (Nat.le_of_ble_eq_true rfl) (Nat.le_of_ble_eq_true rfl) dX0_init_7 (fun H_7 hB_1 hz_1 ho_1 hS => ?_)
  have hP := hP.keep (fun _ _ => ho_1 _ hlt_1)
  have hs_1 : s.heap.size ≤ s.heap.size := hz0
  have hz0 : s.heap.size ≤ H_7.size := by omega
  refine w_putF1 (C := RX0) (T := TX0) (N := 2) (ci := 0) (v := .ref s.heap.size) (ty := (.array .int)) hx hb hts hin0 tyX0 tyX0_ok nmX0 hown hK hP hAa hS rfl 0 (by decide) (hts (.fieldLink RX0 9 "MixedBlocks$Elimination" "leading" "[I") (List.mem_of_getElem? (i := 5) rfl)) (fun _ h9 => h9) rfl hnm rfl (by decide +kernel) rfl rfl (Nat.le_of_ble_eq_true rfl) dX0_init_9 (fun H_9 locs hP hz_9 hO_9 hS => ?_)
  have hB_1 := hB_1.keep (fun _ _ => hO_9 _ (Nat.ne_of_gt hlt_1))
  have hz0 : s.heap.size ≤ H_9.size := by omega
  refine lv_aload_n hx hb dX0_init_12 rfl (lv_at hl 0 rfl) ?_
  refine lv_iconst (v := 0) hx hb dX0_init_13 (by decide) ?_
  refine w_put1 (C := RX0) (T := TX0) (N := 2) (ci := 0) (v := .int 0) (ty := .int) hx hb hts hin0 tyX0 tyX0_ok nmX0 hown hK hP hAa hS rfl 1 (by decide) (hts (.fieldLink RX0 15 "MixedBlocks$Elimination" "rows" "I") (List.mem_of_getElem? (i := 6) rfl)) (fun _ h9 => h9) rfl (by decide +kernel) rfl rfl (Nat.le_of_ble_eq_true rfl) dX0_init_14 (fun H_14 locs hP hz_14 hO_14 hS => ?_)
  have hB_1 := hB_1.keep (fun _ _ => hO_14 _ (Nat.ne_of_gt hlt_1))
  have hz0 : s.heap.size ≤ H_14.size := by omega
  exact W.vret hx hb hr (fun t ht hW => ⟨⟨(), rfl, trivial, (by show wB a s.heap.size 2 (fun g => elP E g (fun _ => 0, 0) t.heap); rw [ht]; exact ⟨g2 a s.heap.size, rfl, g2_le hs_1, wI_2 hlt_1, wP2 hP hB_1 rfl rfl⟩)⟩, hS.F ht⟩) hS.2.2 dX0_init_17
set_option maxHeartbeats 4000000 in
set_option maxRecDepth 100000 in
theorem c_X3_init (l : Launch) (E : wE) (a sz : Nat) : Met l yX3_init wsX3_init ({ frames := 1, cells := 2, slots := 36, locals := 12 }) (va_Pc [.ref a] (wC E 3 [.int 0, .int 0, .null, .null, .int 0, .int 0, .int 0, .int 0] a sz)) (va_Qv (fun (_ : Unit) => True) (fun _ t => wB a sz 3 (fun g => rcT E g false rs0 t.heap)) (cAt a sz)) 2 36 (cAt a sz) := by
  refine Met.ofW (cc := cX3_init) (maxL := 1) (ret := none) (by decide) rfl ?_
  intro p e s m args below meth c s₁ B hml hv
  obtain ⟨rfl, hsz, hP, hK⟩ := hv
  have hx := B.exec
  have hb := B.bytes
  have hr := B.returns
  have hts := atoms_spec (ws := wsX3_init) B.pre
  have hown : s.vm.findClass RX3 = some m.cls := findClass_of_methodNamed B.named
  have hlocks := B.notSynchronized
  have hnm : meth.name = "<init>" := (name_of_methodNamed B.named B.method).1
  subst hsz
  have hA : ∀ q, s.heap.size ≤ q → cAt a s.heap.size q := fun q h => Or.inr h
  have hAa : cAt a s.heap.size a := Or.inl rfl
  have hS : va_S (cAt a s.heap.size) s.heap s.heap [] := va_S.rf
  have hz0 : s.heap.size ≤ s.heap.size := Nat.le_refl _
  have hin3 : ∀ w ∈ wsX30, w ∈ wsX3_init := by decide +kernel
  have hl := lv_entry ([.ref a]) (n := 1) (Nat.le_of_ble_eq_true rfl)
  rw [lg_entry_eq]
  generalize (lg_sl ([.ref a]) ++ List.replicate (1 - (lg_sl ([.ref a])).length) Slot.unset).toArray = ls at hl ⊢
  have hl : lv_has ls 1 [(0, .ref a)] := hl
  refine lv_aload_n hx hb dX3_init_0 rfl (lv_at hl 0 rfl) ?_
  refine W.objInit hx hb hown (hts (.methodLink RX3 3 objectInit) (List.mem_of_getElem? (i := 1) rfl)) (hts (.instanceMethod objectInit) (List.mem_of_getElem? (i := 2) rfl)) (hts (.code objectInit ⟨#[0xb1]⟩ 1 none) (List.mem_of_getElem? (i := 3) rfl)) rfl (by rw [hml]; exact hl.1) rfl dX3_init_1 (Nat.le_of_ble_eq_true rfl) (Nat.le_of_ble_eq_true rfl) ?_
  refine W.eq (g2 := F0 m 4 ls []) rfl ?_
  refine lv_aload_n hx hb dX3_init_4 rfl (lv_at hl 0 rfl) ?_
  refine lv_bipush (v := 12) hx hb dX3_init_5 (by decide) ?_
  have hlt_1 : a < s.heap.size := hP.lt (k := 0) (by decide)
  refine w_newi hx hb (hts (.arrayClass .int) (List.mem_of_getElem? (i := 4) rfl)) hK hS 12 (by decide) (by decide) (by decide) (Nat.le_of_ble_eq_true rfl) (Nat.le_of_ble_eq_true rfl) dX3_init_7 (fun H_7 hB_1 hz_1 ho_1 hS => ?_)
  have hP := hP.keep (fun _ _ => ho_1 _ hlt_1)
  have hs_1 : s.heap.size ≤ s.heap.size := hz0
  have hz0 : s.heap.size ≤ H_7.size := by omega
  refine w_putF1 (C := RX3) (T := TX3) (N := 8) (ci := 3) (v := .ref s.heap.size) (ty := (.array .int)) hx hb hts hin3 tyX3 tyX3_ok nmX3 hown hK hP hAa hS rfl 2 (by decide) (hts (.fieldLink RX3 9 "MixedBlocks$Receiver" "alone" "[I") (List.mem_of_getElem? (i := 5) rfl)) (fun _ h9 => h9) rfl hnm rfl (by decide +kernel) rfl rfl (Nat.le_of_ble_eq_true rfl) dX3_init_9 (fun H_9 locs hP hz_9 hO_9 hS => ?_)
  have hB_1 := hB_1.keep (fun _ _ => hO_9 _ (Nat.ne_of_gt hlt_1))
  have hz0 : s.heap.size ≤ H_9.size := by omega
  refine lv_aload_n hx hb dX3_init_12 rfl (lv_at hl 0 rfl) ?_
  refine lv_bipush (v := 24) hx hb dX3_init_13 (by decide) ?_
  have hlt_2 : a < H_9.size := hP.lt (k := 0) (by decide)
  have hl_hB_1_2 := hB_1.lt (k := 0) (by decide)
  refine w_newi hx hb (hts (.arrayClass .int) (List.mem_of_getElem? (i := 4) rfl)) hK hS 24 (by decide) (by decide) (by decide) (Nat.le_of_ble_eq_true rfl) (Nat.le_of_ble_eq_true rfl) dX3_init_15 (fun H_15 hB_2 hz_2 ho_2 hS => ?_)
  have hP := hP.keep (fun _ _ => ho_2 _ hlt_2)
  have hB_1 := hB_1.keep (fun _ _ => ho_2 _ hl_hB_1_2)
  have hs_2 : s.heap.size ≤ H_9.size := hz0
  have hz0 : s.heap.size ≤ H_15.size := by omega
  refine w_putF1 (C := RX3) (T := TX3) (N := 8) (ci := 3) (v := .ref H_9.size) (ty := (.array .int)) hx hb hts hin3 tyX3 tyX3_ok nmX3 hown hK hP hAa hS rfl 3 (by decide) (hts (.fieldLink RX3 15 "MixedBlocks$Receiver" "left" "[I") (List.mem_of_getElem? (i := 6) rfl)) (fun _ h9 => h9) rfl hnm rfl (by decide +kernel) rfl rfl (Nat.le_of_ble_eq_true rfl) dX3_init_17 (fun H_17 locs hP hz_17 hO_17 hS => ?_)
  have hB_1 := hB_1.keep (fun _ _ => hO_17 _ (Nat.ne_of_gt hlt_1))
  have hB_2 := hB_2.keep (fun _ _ => hO_17 _ (Nat.ne_of_gt hlt_2))
  have hz0 : s.heap.size ≤ H_17.size := by omega
  exact W.vret hx hb hr (fun t ht hW => ⟨⟨(), rfl, trivial, (by show wB a s.heap.size 3 (fun g => rcT E g false rs0 t.heap); rw [ht]; exact ⟨g3 a s.heap.size H_9.size, rfl, g3_le hs_1 hs_2, wI_3 hlt_1 hl_hB_1_2, Nat.zero_le _, (fun _ => 0), (fun j hj => absurd hj (Nat.not_lt_zero j)), wP3 hP hB_1 hB_2 rfl rfl rfl⟩)⟩, hS.F ht⟩) hS.2.2 dX3_init_20
