/-! the law's body: what stands at its loop's head -/
abbrev lwA (s : State) : Nat → Prop := fun q => s.heap.size ≤ q
def LC (p : Program) (l : Launch) (s : State) (m : MethodId) (c : Code) (b L : Nat) (xs : Nat → Int32) (E : wE) (g : Nat → Nat) : Prop :=
  (p.tables.exec = Jvm.exec) ∧ (c.code = cL_law) ∧ (c.maxLocals = 9) ∧ (s.vm.findClass RL = some m.cls) ∧ (∀ w ∈ wsL_law, w.before #[Value.ref b] s = true) ∧ (va_X b L xs s s.heap) ∧ (b < s.heap.size) ∧ (l.stackTraces = false) ∧ (L ≤ 260) ∧ (wK E s) ∧ (xE (lwA s) s s.heap) ∧ (wI 94 g) ∧ (∀ k, k < 94 → s.heap.size ≤ g k) ∧ (va_AO RX3 s) ∧ (va_AO RX4 s)
section LCS
variable {p : Program} {l : Launch} {s : State} {m : MethodId} {c : Code} {b L : Nat} {xs : Nat → Int32} {E : wE} {g : Nat → Nat}
theorem LC.hx (C : LC p l s m c b L xs E g) : p.tables.exec = Jvm.exec := C.1
theorem LC.hb (C : LC p l s m c b L xs E g) : c.code = cL_law := C.2.1
theorem LC.hml (C : LC p l s m c b L xs E g) : c.maxLocals = 9 := C.2.2.1
theorem LC.hown (C : LC p l s m c b L xs E g) : s.vm.findClass RL = some m.cls := C.2.2.2.1
theorem LC.hts (C : LC p l s m c b L xs E g) : ∀ w ∈ wsL_law, w.before #[Value.ref b] s = true := C.2.2.2.2.1
theorem LC.hX (C : LC p l s m c b L xs E g) : va_X b L xs s s.heap := C.2.2.2.2.2.1
theorem LC.hbl (C : LC p l s m c b L xs E g) : b < s.heap.size := C.2.2.2.2.2.2.1
theorem LC.hst (C : LC p l s m c b L xs E g) : l.stackTraces = false := C.2.2.2.2.2.2.2.1
theorem LC.hL (C : LC p l s m c b L xs E g) : L ≤ 260 := C.2.2.2.2.2.2.2.2.1
theorem LC.hK (C : LC p l s m c b L xs E g) : wK E s := C.2.2.2.2.2.2.2.2.2.1
theorem LC.hxe (C : LC p l s m c b L xs E g) : xE (lwA s) s s.heap := C.2.2.2.2.2.2.2.2.2.2.1
theorem LC.hI (C : LC p l s m c b L xs E g) : wI 94 g := C.2.2.2.2.2.2.2.2.2.2.2.1
theorem LC.hAg (C : LC p l s m c b L xs E g) : ∀ k, k < 94 → s.heap.size ≤ g k := C.2.2.2.2.2.2.2.2.2.2.2.2.1
theorem LC.hO3 (C : LC p l s m c b L xs E g) : va_AO RX3 s := C.2.2.2.2.2.2.2.2.2.2.2.2.2.1
theorem LC.hO4 (C : LC p l s m c b L xs E g) : va_AO RX4 s := C.2.2.2.2.2.2.2.2.2.2.2.2.2.2
end LCS
theorem cell_blind {b L : Nat} {xs : Nat → Int32} {av : List Value} : FrameBlind (va_Pc av (fun U => va_X b L xs U U.heap)) := fun a U fr mk q => ⟨q.1, va_X.moved (u := U) (U := U.calling fr mk a) (Vm.Alike.refl U.vm) q.2⟩
theorem cell_go {b L : Nat} {xs : Nat → Int32} {s U : State} {H : Heap} {locs : List Loc} {av : List Value} (hX : va_X b L xs s s.heap) (hbl : b < s.heap.size) (hS : va_S (lwA s) s.heap H locs) (hU : U.heap = H) (hW : s.WarmedH U.vm) : va_Pc av (fun U => va_X b L xs U U.heap) av.toArray U :=
  ⟨rfl, by show va_X b L xs U U.heap; rw [hU]; exact (hX.kept (hS.2.1 b hbl (Nat.not_le_of_lt hbl))).moved hW.alike⟩
