/-! the law's wrappers: what they want of the machine, the arrays of one place for the answers -/
abbrev exA : String := "java/lang/IllegalArgumentException"
abbrev exB : String := "java/lang/IndexOutOfBoundsException"
abbrev exS : String := "java/lang/IllegalStateException"
def xC (U : State) : Prop := va_Nw (.castable exA exA) U ∧ va_Nw (.castable exB exB) U ∧ va_Nw (.castable exS exS) U ∧ va_Nc exA exB U ∧ va_Nc exS exA U
theorem xC.warm {s U : State} (hW : s.WarmedH U.vm) (h : xC s) : xC U := ⟨va_Nw.warmC hW h.1, va_Nw.warmC hW h.2.1, va_Nw.warmC hW h.2.2.1, h.2.2.2.1.moved hW.alike, h.2.2.2.2.moved hW.alike⟩
theorem xC.calling {U : State} (fr : JFrame) (mk : MethodId) (a : Array Value) (h : xC U) : xC (U.calling fr mk a) :=
  ⟨va_Nw.same rfl (rfl : U.vm = (U.calling fr mk a).vm) h.1, va_Nw.same rfl (rfl : U.vm = (U.calling fr mk a).vm) h.2.1, va_Nw.same rfl (rfl : U.vm = (U.calling fr mk a).vm) h.2.2.1, va_Nc.moved (u := U) (U := U.calling fr mk a) (Vm.Alike.refl U.vm) h.2.2.2.1, va_Nc.moved (u := U) (U := U.calling fr mk a) (Vm.Alike.refl U.vm) h.2.2.2.2⟩
def oA (cA : ClassId) (a : Nat) (v : Value) (H : Heap) : Prop := H[a]? = some (arrV cA 1 (fun _ => v))
theorem oA.lt {cA : ClassId} {a : Nat} {v : Value} {H : Heap} (h : oA cA a v H) : a < H.size := (Array.getElem?_eq_some_iff.mp h).1
abbrev tysL (cL cD : ClassId) : List (ClassId × FieldType) := [(cL, .long), (cD, .double)]
def wA (g : Nat → Nat) (ao : Nat) : Nat → Prop := fun q => wF 94 g q ∨ q = ao
def wL (E : wE) (cL cD : ClassId) (g : Nat → Nat) (ao : Nat) (O P : Heap → Prop) (U : State) : Prop := P U.heap ∧ O U.heap ∧ wK E U ∧ va_K E.1 [] (tysL cL cD) U ∧ wI 94 g ∧ (∀ k, k < 94 → g k ≠ ao) ∧ xE (wA g ao) U U.heap ∧ xC U
theorem wL.blind {E : wE} {cL cD : ClassId} {g : Nat → Nat} {ao : Nat} {O P : Heap → Prop} {av : List Value} : FrameBlind (va_Pc av (wL E cL cD g ao O P)) := fun a U fr mk q =>
  ⟨q.1, q.2.1, q.2.2.1, q.2.2.2.1.calling fr mk a, va_K.moved (u := U) (U := U.calling fr mk a) (Vm.Alike.refl U.vm) q.2.2.2.2.1, q.2.2.2.2.2.1, q.2.2.2.2.2.2.1, q.2.2.2.2.2.2.2.1.calling fr mk a, q.2.2.2.2.2.2.2.2.calling fr mk a⟩
theorem wL.go {E : wE} {cL cD : ClassId} {g : Nat → Nat} {ao : Nat} {A0 : Nat → Prop} {O P : Heap → Prop} {s U : State} {H : Heap} {locs : List Loc} {av : List Value} (hP : P H) (hO : O H) (hK : wK E s) (hKL : va_K E.1 [] (tysL cL cD) s) (hI : wI 94 g) (hne : ∀ k, k < 94 → g k ≠ ao) (hxe : xE A0 s s.heap) (hxc : xC s) (hS : va_S A0 s.heap H locs) (hA : ∀ q, wA g ao q → A0 q) (hU : U.heap = H) (hW : s.WarmedH U.vm) : va_Pc av (wL E cL cD g ao O P) av.toArray U :=
  ⟨rfl, by rw [hU]; exact hP, by rw [hU]; exact hO, hK.warm hW, va_K.moved hW.alike hKL, hI, hne, hxe.go hS hA hU hW, hxc.warm hW⟩
theorem MB.main {E : wE} {g : Nat → Nat} {ln : Nat} {bf : Nat → Int32} {z : SS} {ke : Nat} {hs : Nat → SS} {H : Heap} (h : MB E g ln bf z ke hs H) : wP E 2 g (mbF E g ln bf) H := by
  obtain ⟨ol, zs, hr, hM, _⟩ := h
  exact hM
theorem MB.rng {E : wE} {g : Nat → Nat} {ln : Nat} {bf : Nat → Int32} {z : SS} {ke : Nat} {hs : Nat → SS} {H : Heap} (h : MB E g ln bf z ke hs H) : ke ≤ 6 ∧ ln ≤ 60 ∧ 2 ≤ z.1 ∧ z.1 ≤ 12 := by
  obtain ⟨ol, zs, ⟨_, h2, _, h4, h5, h6⟩, _⟩ := h
  exact ⟨h2, h4, h5, h6⟩
/-- a write into one cell that is none of the object's -/
theorem MB.at {E : wE} {g : Nat → Nat} {ln : Nat} {bf : Nat → Int32} {z : SS} {ke : Nat} {hs : Nat → SS} {H H1 : Heap} (h : MB E g ln bf z ke hs H) {A : Nat → Prop} (hk : ∀ q : Nat, q < H.size → ¬ A q → H1[q]? = H[q]?) (hne : ∀ k, k < 94 → ¬ A (g k)) : MB E g ln bf z ke hs H1 := by
  obtain ⟨ol, zs, hr, hM, ⟨⟨pa, hPa⟩, ⟨el, hEl⟩, ⟨tli, tq, hTr⟩⟩, hN, hHi, hHs⟩ := h
  exact ⟨ol, zs, hr, hM.other hk (fun k hk2 => hne k (by omega)), ⟨⟨pa, hPa.other hk (fun k hk2 => hne (2 + k) (by omega))⟩, ⟨el, hEl.other hk (fun k hk2 => hne (3 + k) (by omega))⟩, ⟨tli, tq, hTr.other hk (fun k hk2 => hne (5 + k) (by omega))⟩⟩, stP.other hN hk (fun k hk2 => hne (8 + k) (by omega)), hHi.other hk (fun k hk2 => hne (20 + k) (by omega)), hHs.other hk (fun k hk2 => hne (20 + k) (by omega))⟩
theorem w_ofWH {l : Launch} {y : MethodName} {ws ws' : List Cond} {rm : Room} {Pc : Array Value → State → Prop} {Qc : Array Value → State → Outcome → State → Prop} {mc ms : Nat} {free : Addr → Prop} {cc : ByteArray} {maxL : Nat} {ret : Option FieldType} {hh : List (Nat × Nat × Nat × Nat)}
    (hy : plainName y.cls = true) (hw : ws = Cond.codeWith y cc maxL ret hh :: ws')
    (body : ∀ p e s m args below meth c s₁, BodyLoose p l y (headSpec ws rm) cc maxL ret e s m args below meth c s₁ → c.maxLocals = maxL → Pc args s →
      W p l e (headSpec ws rm).room s m args below meth c s.heap [] 0 0 (MQ below Qc args s mc ms free) (entryFrame m args maxL)) : Met l y ws rm Pc Qc mc ms free := by
  refine MetFree.of_bodyS (code := cc) (maxLocals := maxL) (ret := ret) hy ?_ ?_
  · intro args s m h hn
    obtain ⟨m9, meth, c, hn9, h1, h2, h3, h4, -, h5, h6, -⟩ := Cond.codeWith_spec (atoms_spec (ws := ws) h _ (by rw [hw]; exact List.mem_cons_self))
    cases hn.symm.trans hn9
    exact ⟨meth, c, h1, h2, h3, h4, h5, h6⟩
  · intro p e s m args below meth c s₁ B hml hP _
    have hh0 : s₁.heap = s.heap := by rw [B.state]; rfl
    obtain ⟨t, a1, o, b1, b2, b3⟩ := body p e s m args below meth c s₁ B hml hP s₁ hh0 (Stand.of_body B)
    exact ⟨t, o, a1, b1, b2, b3⟩
section WLL
variable {p : Program} {l : Launch} {e : Env} {R : Room} {s : State} {m : MethodId} {args : Array Value} {below : List Frame} {meth : Method} {c : Code} {H : Heap} {locs : List Loc} {cells slots : Nat} {Q : State → Prop} {cc : ByteArray} {pc : Nat} {ls : Array Slot} {rest : List Value} {A : Nat → Prop} {H0 : Heap} {D : va_G} {cL cD : ClassId} {ao : Nat}
theorem w_last (hexec : p.tables.exec = Jvm.exec) (hb : c.code = cc) (hKL : va_K D [] (tysL cL cD) s) {x y : Int64} (hO : oA cL ao (.long y) H) (hA : A ao) (hS : va_S A H0 H locs) (hdg : decode cc pc = .ok (.lastore, 1))
    (kk : ∀ (H1 : Heap) (locs1 : List Loc), oA cL ao (.long x) H1 → H1.size = H.size → (∀ q : Nat, q ≠ ao → H1[q]? = H[q]?) → va_S A H0 H1 locs1 → W p l e R s m args below meth c H1 locs1 cells slots Q (F0 m (pc + 1) ls rest)) : W p l e R s m args below meth c H locs cells slots Q (F0 m pc ls (.long x :: .int 0 :: .ref ao :: rest)) := by
  refine W.last hexec hb hO ((hKL.2 0 _ rfl).1 1 (fun _ => .long y)) (fun q => by cases q) (by show ¬ ((0 : Int32) < 0 ∨ (arrV _ _ _).slots.size ≤ _); rw [arrV_size]; decide) rfl rfl hdg fun H1 e z oq => ?_
  refine kk H1 _ ?_ z oq (hS.put z oq hA)
  show H1[ao]? = _
  rw [e, arrV_store]
  exact congrArg some (arrV_ext (fun i hi => by have h0 : i = 0 := by omega
                                                subst h0
                                                simp [updV]))
theorem w_dast (hexec : p.tables.exec = Jvm.exec) (hb : c.code = cc) (hKL : va_K D [] (tysL cL cD) s) {x y : UInt64} (hO : oA cD ao (.double y) H) (hA : A ao) (hS : va_S A H0 H locs) (hdg : decode cc pc = .ok (.dastore, 1))
    (kk : ∀ (H1 : Heap) (locs1 : List Loc), oA cD ao (.double x) H1 → H1.size = H.size → (∀ q : Nat, q ≠ ao → H1[q]? = H[q]?) → va_S A H0 H1 locs1 → W p l e R s m args below meth c H1 locs1 cells slots Q (F0 m (pc + 1) ls rest)) : W p l e R s m args below meth c H locs cells slots Q (F0 m pc ls (.double x :: .int 0 :: .ref ao :: rest)) := by
  refine W.dast hexec hb hO ((hKL.2 1 _ rfl).1 1 (fun _ => .double y)) (fun q => by cases q) (by show ¬ ((0 : Int32) < 0 ∨ (arrV _ _ _).slots.size ≤ _); rw [arrV_size]; decide) rfl rfl hdg fun H1 e z oq => ?_
  refine kk H1 _ ?_ z oq (hS.put z oq hA)
  show H1[ao]? = _
  rw [e, arrV_store]
  exact congrArg some (arrV_ext (fun i hi => by have h0 : i = 0 := by omega
                                                subst h0
                                                simp [updV]))
theorem w_lald (hexec : p.tables.exec = Jvm.exec) (hb : c.code = cc) (hKL : va_K D [] (tysL cL cD) s) {y : Int64} (hO : oA cL ao (.long y) H) (hdg : decode cc pc = .ok (.laload, 1))
    (kk : W p l e R s m args below meth c H locs cells slots Q (F0 m (pc + 1) ls (.long y :: rest))) : W p l e R s m args below meth c H locs cells slots Q (F0 m pc ls (.int 0 :: .ref ao :: rest)) :=
  W.lald (v := .long y) hexec hb hO ((hKL.2 0 _ rfl).1 1 (fun _ => .long y)) (fun q => by cases q) (by show ¬ ((0 : Int32) < 0 ∨ (arrV _ _ _).slots.size ≤ _); rw [arrV_size]; decide) (by show (arrV _ _ _).slots[_]? = _; rw [arrV_read _ _ (by decide)]) rfl rfl hdg kk
theorem w_dald (hexec : p.tables.exec = Jvm.exec) (hb : c.code = cc) (hKL : va_K D [] (tysL cL cD) s) {y : UInt64} (hO : oA cD ao (.double y) H) (hdg : decode cc pc = .ok (.daload, 1))
    (kk : W p l e R s m args below meth c H locs cells slots Q (F0 m (pc + 1) ls (.double y :: rest))) : W p l e R s m args below meth c H locs cells slots Q (F0 m pc ls (.int 0 :: .ref ao :: rest)) :=
  W.dald (v := .double y) hexec hb hO ((hKL.2 1 _ rfl).1 1 (fun _ => .double y)) (fun q => by cases q) (by show ¬ ((0 : Int32) < 0 ∨ (arrV _ _ _).slots.size ≤ _); rw [arrV_size]; decide) (by show (arrV _ _ _).slots[_]? = _; rw [arrV_read _ _ (by decide)]) rfl rfl hdg kk
end WLL
