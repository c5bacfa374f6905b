/-! what a method that throws wants of the machine: words that no list holds, texts, Throwable's two statics; and the row of degrees -/
def nIA : String := "java/lang/IllegalArgumentException"
def nIB : String := "java/lang/IndexOutOfBoundsException"
def nIS : String := "java/lang/IllegalStateException"
abbrev xNames : List String := ["java/lang/RuntimeException", "java/lang/Exception"]
def wXB : List Cond := (vx_atS RX5 56 "java/lang/IllegalArgumentException" ["java/lang/RuntimeException", "java/lang/Exception"]).filter (fun w => !goodWord w) ++ ((vx_atS RX5 217 "java/lang/IndexOutOfBoundsException" ["java/lang/RuntimeException", "java/lang/Exception"]).filter (fun w => !goodWord w) ++ (vx_atS RX5 115 "java/lang/IllegalStateException" ["java/lang/RuntimeException", "java/lang/Exception"]).filter (fun w => !goodWord w))
def wXBQ : Cond → Bool | .castable .. => true | .declares .. => true | _ => false
theorem wXB_all : wXB.all wXBQ = true := by decide +kernel
theorem wXB_tab {w : Cond} (h : w ∈ wXB) : w.onTables = true := by
  have h1 := List.all_eq_true.mp wXB_all w h
  cases w <;> first | rfl | (simp [wXBQ] at h1)
def wStr : List (Nat × String) := [(54, "a file has 2 to 12 blocks"), (218, "no such block"), (74, "a block is 0 to 65535"), (215, "no such receiver"), (220, "a mix is 0 to 9999"), (136, "no state is saved"), (222, "what is out of range"), (163, "a place is not below 0"), (183, "the first mix is 0 to 9899")]
def xE (A : Nat → Prop) (U : State) (H : Heap) : Prop := (∀ w ∈ wXB, va_Nw w U) ∧ (∀ q ∈ wStr, ∃ a, vk_R RX5 q.1 q.2 a U) ∧ vx_Zq Bundle.tN "UNASSIGNED_STACK" Bundle.steD A U H ∧ vx_Zq Bundle.tN "SUPPRESSED_SENTINEL" Bundle.listD A U H ∧ dgP A U H
theorem xE.calling {A : Nat → Prop} {U : State} (fr : JFrame) (mk : MethodId) (a : Array Value) (h : xE A U U.heap) : xE A (U.calling fr mk a) (U.calling fr mk a).heap :=
  ⟨fun w hw => va_Nw.same (wXB_tab hw) (rfl : U.vm = (U.calling fr mk a).vm) (h.1 w hw), fun q hq => (h.2.1 q hq).elim fun b hb => ⟨b, vk_R.same (u := U) (rfl : (U.calling fr mk a).vm = U.vm) hb⟩,
   h.2.2.1.moved (u := U) (U := U.calling fr mk a) (Vm.Alike.refl U.vm), h.2.2.2.1.moved (u := U) (U := U.calling fr mk a) (Vm.Alike.refl U.vm), h.2.2.2.2.moved (u := U) (U := U.calling fr mk a) (Vm.Alike.refl U.vm)⟩
theorem xE.go {A A0 : Nat → Prop} {s U : State} {H : Heap} {locs : List Loc} (h : xE A0 s s.heap) (hS : va_S A0 s.heap H locs) (hA : ∀ q, A q → A0 q) (hU : U.heap = H) (hW : s.WarmedH U.vm) : xE A U U.heap := by
  rw [hU]
  refine ⟨fun w hw => ?_, fun q hq => (h.2.1 q hq).elim fun b hb => ⟨b, vk_R.warm hW hb⟩, ((h.2.2.1.kept hS.2.1).moved hW.alike).narrow hA, ((h.2.2.2.1.kept hS.2.1).moved hW.alike).narrow hA, ((h.2.2.2.2.kept hS.2.1).moved hW.alike).narrow hA⟩
  have h1 := List.all_eq_true.mp wXB_all w hw
  have h2 := h.1 w hw
  cases w <;> first | exact va_Nw.warmC hW h2 | exact va_Nw.warmD hW h2 | (simp [wXBQ] at h1)
/-- a method's start that may throw -/
def wSx (E : wE) (n : Nat) (g : Nat → Nat) (A : Nat → Prop) (P : Heap → Prop) (U : State) : Prop := P U.heap ∧ wK E U ∧ wI n g ∧ xE A U U.heap
theorem wSx.blind {E : wE} {n : Nat} {g : Nat → Nat} {A : Nat → Prop} {P : Heap → Prop} {av : List Value} : FrameBlind (va_Pc av (wSx E n g A P)) := fun a U fr mk q => ⟨q.1, q.2.1, q.2.2.1.calling fr mk a, q.2.2.2.1, q.2.2.2.2.calling fr mk a⟩
theorem wSx.go {E : wE} {n : Nat} {g : Nat → Nat} {A A0 : Nat → Prop} {P : Heap → Prop} {s U : State} {H : Heap} {locs : List Loc} {av : List Value} (hP : P H) (hK : wK E s) (hI : wI n g) (hxe : xE A0 s s.heap) (hS : va_S A0 s.heap H locs) (hA : ∀ q, A q → A0 q) (hU : U.heap = H) (hW : s.WarmedH U.vm) : va_Pc av (wSx E n g A P) av.toArray U :=
  ⟨rfl, by rw [hU]; exact hP, hK.warm hW, hI, hxe.go hS hA hU hW⟩
/-- a throw: what stood stands, one cell more -/
theorem w_throw {p : Program} {l : Launch} {e : Env} {R : Room} {s : State} {m : MethodId} {args : Array Value} {below : List Frame} {meth : Method} {c : Code} {H : Heap} {locs : List Loc} {cells slots : Nat} {Qc : Array Value → State → Outcome → State → Prop} {XC : String → State → State → Prop} {free : Addr → Prop} {rest : List Value} {ls : Array Slot}
    {cc : ByteArray} {pc : Nat} (hexec : p.tables.exec = Jvm.exec) (hb : c.code = cc) (hl : l.stackTraces = false) {cls text : String} {ik is ic mc ms : Nat} {A : Nat → Prop}
    (hown : s.vm.findClass RX5 = some m.cls) (hcls : Bundle.fit cls = true)
    (hk : (Cond.classLink RX5 ik cls).before args s = true) (hini : (Cond.initialized cls).before args s = true) (hstr : (is, text) ∈ wStr) (hgw : ∀ w ∈ (vx_atS RX5 ic cls ["java/lang/RuntimeException", "java/lang/Exception"]).filter goodWord, w.before args s = true) (hbw : ∀ w ∈ (vx_atS RX5 ic cls ["java/lang/RuntimeException", "java/lang/Exception"]).filter (fun w => !goodWord w), w ∈ wXB)
    (hot : ∀ w ∈ Cond.classLink RX5 ik cls :: Cond.initialized cls :: vx_atS RX5 ic cls ["java/lang/RuntimeException", "java/lang/Exception"], vx_ot w = true)
    (hxe : xE A s s.heap) (hS : va_S A s.heap H locs) (hsize : ls.size = c.maxLocals)
    (d0 : decode cc pc = .ok (.new ik, 3)) (d3 : decode cc (pc + 3) = .ok (.dup, 1)) (d4 : decode cc (pc + 4) = .ok (.ldc is, 2)) (d6 : decode cc (pc + 6) = .ok (.invokespecial ic, 3)) (d9 : decode cc (pc + 9) = .ok (.athrow, 1))
    (hout : ∀ x ∈ c.exceptionTable.toList, False)
    (hRframes : 5 < R.frames) (hRlocals : (rest.map fun v => v.category).sum + 82 ≤ R.locals) (hRcells : cells + 1 ≤ R.cells) (hRslots : slots + 6 ≤ R.slots) (hlocks : meth.locks = false)
    (hx : ∀ t : State, (∀ q : Nat, q < H.size → t.heap[q]? = H[q]?) → va_F A s t → XC cls s t)
    (hf : ∀ z ∈ locs, free z.base) (hc : cells + 1 ≤ mc) (hs : slots + 6 ≤ ms) :
    W p l e R s m args below meth c H locs cells slots (vx_MQ below Qc XC args s mc ms free) (F0 m pc ls rest) := by
  obtain ⟨sa, hsa⟩ := hxe.2.1 _ hstr
  exact vx_throwS (names := ["java/lang/RuntimeException", "java/lang/Exception"]) hexec hb hl hown hcls (by decide +kernel) hk hini hsa (vx_hat hgw hbw (fun w hw => va_Nw.use (wXB_tab hw) (hxe.1 w hw))) hot hxe.2.2.1 hxe.2.2.2.1 hS hsize d0 d3 d4 d6 d9 (fun x hx => (hout x hx).elim) hRframes hRlocals hRcells hRslots hlocks
    (fun t _ h1 h2 => hx t h2 ⟨Nat.le_trans hS.1 h1, fun q hq hA => (h2 q (Nat.lt_of_lt_of_le hq hS.1)).trans (hS.2.1 q hq hA)⟩) hf hc hs
theorem xb56 : ∀ w ∈ (vx_atS RX5 56 "java/lang/IllegalArgumentException" ["java/lang/RuntimeException", "java/lang/Exception"]).filter (fun w => !goodWord w), w ∈ wXB := fun _ h => List.mem_append_left _ h
theorem xb217 : ∀ w ∈ (vx_atS RX5 217 "java/lang/IndexOutOfBoundsException" ["java/lang/RuntimeException", "java/lang/Exception"]).filter (fun w => !goodWord w), w ∈ wXB := fun _ h => List.mem_append_right _ (List.mem_append_left _ h)
theorem xb115 : ∀ w ∈ (vx_atS RX5 115 "java/lang/IllegalStateException" ["java/lang/RuntimeException", "java/lang/Exception"]).filter (fun w => !goodWord w), w ∈ wXB := fun _ h => List.mem_append_right _ (List.mem_append_right _ h)
theorem xo56 : ∀ w ∈ Cond.classLink RX5 52 "java/lang/IllegalArgumentException" :: Cond.initialized "java/lang/IllegalArgumentException" :: vx_atS RX5 56 "java/lang/IllegalArgumentException" ["java/lang/RuntimeException", "java/lang/Exception"], vx_ot w = true := by decide +kernel
theorem xo217 : ∀ w ∈ Cond.classLink RX5 213 "java/lang/IndexOutOfBoundsException" :: Cond.initialized "java/lang/IndexOutOfBoundsException" :: vx_atS RX5 217 "java/lang/IndexOutOfBoundsException" ["java/lang/RuntimeException", "java/lang/Exception"], vx_ot w = true := by decide +kernel
theorem xo115 : ∀ w ∈ Cond.classLink RX5 111 "java/lang/IllegalStateException" :: Cond.initialized "java/lang/IllegalStateException" :: vx_atS RX5 115 "java/lang/IllegalStateException" ["java/lang/RuntimeException", "java/lang/Exception"], vx_ot w = true := by decide +kernel
