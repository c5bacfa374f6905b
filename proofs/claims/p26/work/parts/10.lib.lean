/-! MY LIB: a world of n cells by an address function g and a content function f -/
def wd (n : Nat) (g : Nat → Nat) (f : Nat → va_E) : va_W := (List.range n).map (fun k => (g k, f k))
theorem wd_get {n : Nat} {g : Nat → Nat} {f : Nat → va_E} {k : Nat} (h : k < n) : (wd n g f)[k]? = some (g k, f k) := by
  unfold wd
  rw [List.getElem?_map, List.getElem?_range h]
  rfl
theorem wd_len (n : Nat) (g : Nat → Nat) (f : Nat → va_E) : (wd n g f).length = n := by
  unfold wd
  rw [List.length_map, List.length_range]
theorem wd_inv {n : Nat} {g : Nat → Nat} {f : Nat → va_E} {k : Nat} {q : Nat × va_E} (h : (wd n g f)[k]? = some q) : k < n ∧ q = (g k, f k) := by
  have hk : k < n := by
    have h1 := (List.getElem?_eq_some_iff.mp h).1
    rw [wd_len] at h1
    exact h1
  rw [wd_get hk] at h
  exact ⟨hk, (Option.some.inj h).symm⟩
theorem wd_set {n : Nat} {g : Nat → Nat} {f f' : Nat → va_E} {k : Nat} {e : va_E} (h1 : f' k = e) (h2 : ∀ j, j < n → j ≠ k → f' j = f j) : (wd n g f).set k (g k, e) = wd n g f' := by
  apply List.ext_getElem?
  intro j
  by_cases hj : j < n
  · by_cases hjk : j = k
    · subst hjk
      rw [List.getElem?_set_self (by rw [wd_len]; exact hj), wd_get hj, h1]
    · rw [List.getElem?_set_ne (Ne.symm hjk), wd_get hj, wd_get hj, h2 j hj hjk]
  · rw [List.getElem?_eq_none (by rw [List.length_set, wd_len]; omega), List.getElem?_eq_none (by rw [wd_len]; omega)]
/-- the addresses are apart -/
def wI (n : Nat) (g : Nat → Nat) : Prop := ∀ i j, i < n → j < n → g i = g j → i = j
/-- the cells' addresses -/
def wF (n : Nat) (g : Nat → Nat) : Nat → Prop := fun q => ∃ k, k < n ∧ q = g k
def wN : Nat → Prop := fun _ => False
theorem wF_in {n : Nat} {g : Nat → Nat} : ∀ k, k < n → wF n g (g k) := fun k h => ⟨k, h, rfl⟩
theorem wd_D {A : Nat → Prop} {n : Nat} {g : Nat → Nat} {f : Nat → va_E} (hI : wI n g) (hA : ∀ k, k < n → A (g k)) : va_D A (wd n g f) := by
  refine ⟨fun i j p q hi hj hpq => ?_, fun k q hk => ?_⟩
  · obtain ⟨h1, rfl⟩ := wd_inv hi
    obtain ⟨h2, rfl⟩ := wd_inv hj
    exact hI i j h1 h2 hpq
  · obtain ⟨h1, rfl⟩ := wd_inv hk
    exact hA k h1
/-- the launch's numbers: of the classes and slots, of int[], Receiver[], State[] -/
abbrev wE : Type := va_G × ClassId × ClassId × ClassId
abbrev tysE (E : wE) : List (ClassId × FieldType) := [(E.2.1, .int), (E.2.2.1, .object "MixedBlocks$Receiver"), (E.2.2.2, .object "MixedBlocks$State")]
def wP (E : wE) (n : Nat) (g : Nat → Nat) (f : Nat → va_E) (H : Heap) : Prop := va_P E.1 vwCl (wd n g f) H
theorem wP_at {E : wE} {n : Nat} {g : Nat → Nat} {f : Nat → va_E} {H : Heap} : wP E n g f H ↔ ∀ k, k < n → va_at E.1 vwCl (g k, f k) H := by
  constructor
  · intro h k hk
    exact h k _ (wd_get hk)
  · intro h k q hk
    obtain ⟨h1, rfl⟩ := wd_inv hk
    exact h k h1
theorem wP.lt {E : wE} {n : Nat} {g : Nat → Nat} {f : Nat → va_E} {H : Heap} (h : wP E n g f H) {k : Nat} (hk : k < n) : g k < H.size := (wP_at.mp h k hk).lt
/-- a part of a world -/
theorem wP.part {E : wE} {n n' : Nat} {g : Nat → Nat} {f f' : Nat → va_E} {H : Heap} (h : wP E n g f H) (u : Nat → Nat) (hu : ∀ j, j < n' → u j < n ∧ f (u j) = f' j) : wP E n' (fun j => g (u j)) f' H := by
  refine wP_at.mpr fun j hj => ?_
  have h1 := wP_at.mp h (u j) (hu j hj).1
  rw [(hu j hj).2] at h1
  exact h1
/-- and the whole, when the part has changed -/
theorem wP.join {E : wE} {n n' : Nat} {g : Nat → Nat} {f f1 f2 : Nat → va_E} {H H1 : Heap} (h : wP E n g f H) (hI : wI n g) (u : Nat → Nat) (h1 : wP E n' (fun j => g (u j)) f1 H1) (hk : ∀ q : Nat, q < H.size → ¬ wF n' (fun j => g (u j)) q → H1[q]? = H[q]?)
    (hu : ∀ j, j < n' → u j < n ∧ f2 (u j) = f1 j) (ho : ∀ k, k < n → (∀ j, j < n' → u j ≠ k) → f2 k = f k) : wP E n g f2 H1 := by
  refine wP_at.mpr fun k hkn => ?_
  by_cases hx : ∃ j, j < n' ∧ u j = k
  · obtain ⟨j, hj, rfl⟩ := hx
    have h3 := wP_at.mp h1 j hj
    rw [← (hu j hj).2] at h3
    exact h3
  · have hno : ∀ j, j < n' → u j ≠ k := fun j hj e => hx ⟨j, hj, e⟩
    rw [ho k hkn hno]
    have h3 := wP_at.mp h k hkn
    refine h3.kept (hk _ h3.lt ?_)
    rintro ⟨j, hj, e⟩
    exact hno j hj (hI _ _ hkn (hu j hj).1 e).symm
theorem wP.same {E : wE} {n : Nat} {g : Nat → Nat} {f : Nat → va_E} {H H1 : Heap} (h : wP E n g f H) (hk : ∀ q : Nat, q < H.size → ¬ wN q → H1[q]? = H[q]?) : wP E n g f H1 :=
  wP_at.mpr fun k hkn => (wP_at.mp h k hkn).kept (hk _ (wP_at.mp h k hkn).lt (fun z => z))
theorem wP.other {E : wE} {n : Nat} {g : Nat → Nat} {f : Nat → va_E} {H H1 : Heap} {A : Nat → Prop} (h : wP E n g f H) (hk : ∀ q : Nat, q < H.size → ¬ A q → H1[q]? = H[q]?) (hA : ∀ k, k < n → ¬ A (g k)) : wP E n g f H1 :=
  wP_at.mpr fun k hkn => (wP_at.mp h k hkn).kept (hk _ (wP_at.mp h k hkn).lt (hA k hkn))
theorem wP.cg {E : wE} {n : Nat} {g g' : Nat → Nat} {f f' : Nat → va_E} {H : Heap} (h : wP E n g f H) (hg : ∀ k, k < n → g' k = g k) (hf : ∀ k, k < n → f' k = f k) : wP E n g' f' H := by
  refine wP_at.mpr fun k hk => ?_
  rw [hg k hk, hf k hk]
  exact wP_at.mp h k hk
theorem wI.part {n n' : Nat} {g : Nat → Nat} (hI : wI n g) (u : Nat → Nat) (hu : ∀ j, j < n' → u j < n) (hi : ∀ i j, i < n' → j < n' → u i = u j → i = j) : wI n' (fun j => g (u j)) :=
  fun i j h1 h2 e => hi i j h1 h2 (hI _ _ (hu i h1) (hu j h2) e)
/-- the links between nest mates that the classes use -/
def wNest : List Cond := [Cond.fieldLinkNest RX5 88 "MixedBlocks$Receiver" "listens" "Z" RX5, Cond.fieldLinkNest RX4 51 "MixedBlocks$Receiver" "listens" "Z" RX5, Cond.fieldLinkNest RX5 253 "MixedBlocks$Receiver" "knownBlocks" "I" RX5, Cond.fieldLinkNest RX5 165 "MixedBlocks$Receiver" "waits" "I" RX5, Cond.fieldLinkNest RX5 256 "MixedBlocks$Receiver" "got" "I" RX5, Cond.fieldLinkNest RX5 259 "MixedBlocks$Receiver" "toldNothing" "I" RX5, Cond.fieldLinkNest RX5 262 "MixedBlocks$Receiver" "lost" "I" RX5, Cond.fieldLinkNest RX5 63 "MixedBlocks$State" "blocks" "I" RX5, Cond.fieldLinkNest RX5 272 "MixedBlocks$State" "sent" "I" RX5, Cond.fieldLinkNest RX5 138 "MixedBlocks$History" "kept" "I" RX5, Cond.fieldLinkNest RX3 88 "MixedBlocks$Elimination" "rows" "I" RX5, Cond.methodLinkNest RX0 19 yX5_holds RX5, Cond.methodLinkNest RX0 23 yX5_blocksOf RX5, Cond.methodLinkNest RX3 48 yX5_holds RX5, Cond.methodLinkNest RX3 52 yX5_valueOf RX5, Cond.methodLinkNest RX3 26 yX5_copyRow RX5, Cond.fieldLinkNest RX4 58 "MixedBlocks" "DEGREES" "[I" RX5, Cond.methodLinkNest RX4 73 yX5_holds RX5, Cond.methodLinkNest RX3 58 yX5_blockCountOf RX5, Cond.methodLinkNest RX3 64 yX5_blocksOf RX5, Cond.methodLinkNest RX4 29 yX5_copyRow RX5]
def wNestQ : Cond → Bool | .fieldLinkNest .. => true | .methodLinkNest .. => true | _ => false
theorem wNest_all : wNest.all wNestQ = true := by decide +kernel
theorem nf_X5_88 : Cond.fieldLinkNest RX5 88 "MixedBlocks$Receiver" "listens" "Z" RX5 ∈ wNest := List.mem_of_getElem? (i := 0) rfl
theorem nf_X4_51 : Cond.fieldLinkNest RX4 51 "MixedBlocks$Receiver" "listens" "Z" RX5 ∈ wNest := List.mem_of_getElem? (i := 1) rfl
theorem nf_X5_253 : Cond.fieldLinkNest RX5 253 "MixedBlocks$Receiver" "knownBlocks" "I" RX5 ∈ wNest := List.mem_of_getElem? (i := 2) rfl
theorem nf_X5_165 : Cond.fieldLinkNest RX5 165 "MixedBlocks$Receiver" "waits" "I" RX5 ∈ wNest := List.mem_of_getElem? (i := 3) rfl
theorem nf_X5_256 : Cond.fieldLinkNest RX5 256 "MixedBlocks$Receiver" "got" "I" RX5 ∈ wNest := List.mem_of_getElem? (i := 4) rfl
theorem nf_X5_259 : Cond.fieldLinkNest RX5 259 "MixedBlocks$Receiver" "toldNothing" "I" RX5 ∈ wNest := List.mem_of_getElem? (i := 5) rfl
theorem nf_X5_262 : Cond.fieldLinkNest RX5 262 "MixedBlocks$Receiver" "lost" "I" RX5 ∈ wNest := List.mem_of_getElem? (i := 6) rfl
theorem nf_X5_63 : Cond.fieldLinkNest RX5 63 "MixedBlocks$State" "blocks" "I" RX5 ∈ wNest := List.mem_of_getElem? (i := 7) rfl
theorem nf_X5_272 : Cond.fieldLinkNest RX5 272 "MixedBlocks$State" "sent" "I" RX5 ∈ wNest := List.mem_of_getElem? (i := 8) rfl
theorem nf_X5_138 : Cond.fieldLinkNest RX5 138 "MixedBlocks$History" "kept" "I" RX5 ∈ wNest := List.mem_of_getElem? (i := 9) rfl
theorem nf_X3_88 : Cond.fieldLinkNest RX3 88 "MixedBlocks$Elimination" "rows" "I" RX5 ∈ wNest := List.mem_of_getElem? (i := 10) rfl
theorem nm_X0_19 : Cond.methodLinkNest RX0 19 yX5_holds RX5 ∈ wNest := List.mem_of_getElem? (i := 11) rfl
theorem nm_X0_23 : Cond.methodLinkNest RX0 23 yX5_blocksOf RX5 ∈ wNest := List.mem_of_getElem? (i := 12) rfl
theorem nm_X3_48 : Cond.methodLinkNest RX3 48 yX5_holds RX5 ∈ wNest := List.mem_of_getElem? (i := 13) rfl
theorem nm_X3_52 : Cond.methodLinkNest RX3 52 yX5_valueOf RX5 ∈ wNest := List.mem_of_getElem? (i := 14) rfl
theorem nm_X3_26 : Cond.methodLinkNest RX3 26 yX5_copyRow RX5 ∈ wNest := List.mem_of_getElem? (i := 15) rfl
theorem nf_X4_58 : Cond.fieldLinkNest RX4 58 "MixedBlocks" "DEGREES" "[I" RX5 ∈ wNest := List.mem_of_getElem? (i := 16) rfl
theorem nm_X4_73 : Cond.methodLinkNest RX4 73 yX5_holds RX5 ∈ wNest := List.mem_of_getElem? (i := 17) rfl
theorem nm_X3_58 : Cond.methodLinkNest RX3 58 yX5_blockCountOf RX5 ∈ wNest := List.mem_of_getElem? (i := 18) rfl
theorem nm_X3_64 : Cond.methodLinkNest RX3 64 yX5_blocksOf RX5 ∈ wNest := List.mem_of_getElem? (i := 19) rfl
theorem nm_X4_29 : Cond.methodLinkNest RX4 29 yX5_copyRow RX5 ∈ wNest := List.mem_of_getElem? (i := 20) rfl
/-- what every method of the system knows of the machine -/
def wK (E : wE) (U : State) : Prop := va_K E.1 vwCl (tysE E) U ∧ ∀ w ∈ wNest, va_Nw w U
theorem wNest_tab {w : Cond} (h : w ∈ wNest) : w.onTables = true := by
  have h1 := List.all_eq_true.mp wNest_all w h
  cases w <;> first | rfl | (simp [wNestQ] at h1)
theorem wK.calling {E : wE} {U : State} (g : JFrame) (mk : MethodId) (a : Array Value) (h : wK E U) : wK E (U.calling g mk a) :=
  ⟨va_K.moved (u := U) (U := U.calling g mk a) (Vm.Alike.refl U.vm) h.1, fun w hw => va_Nw.same (wNest_tab hw) (rfl : U.vm = (U.calling g mk a).vm) (h.2 w hw)⟩
theorem wK.warm {E : wE} {s U : State} (hW : s.WarmedH U.vm) (h : wK E s) : wK E U := by
  refine ⟨va_K.moved hW.alike h.1, fun w hw => ?_⟩
  have h1 := List.all_eq_true.mp wNest_all w hw
  have h2 := h.2 w hw
  cases w <;> first | exact va_Nw.warmF hW h2 | exact va_Nw.warmM hW h2 | (simp [wNestQ] at h1)
/-- a method's start: what the heap holds, the machine, the addresses apart -/
def wS (E : wE) (n : Nat) (g : Nat → Nat) (P : Heap → Prop) (U : State) : Prop := P U.heap ∧ wK E U ∧ wI n g
theorem wS.blind {E : wE} {n : Nat} {g : Nat → Nat} {P : Heap → Prop} {av : List Value} : FrameBlind (va_Pc av (wS E n g P)) := fun a U fr mk q => ⟨q.1, q.2.1, q.2.2.1.calling fr mk a, q.2.2.2⟩
theorem wS.go {E : wE} {n : Nat} {g : Nat → Nat} {P : Heap → Prop} {s U : State} {H : Heap} {av : List Value} (hP : P H) (hK : wK E s) (hI : wI n g) (hU : U.heap = H) (hW : s.WarmedH U.vm) : va_Pc av (wS E n g P) av.toArray U := ⟨rfl, by rw [hU]; exact hP, hK.warm hW, hI⟩
theorem w_recv {E : wE} {s : State} {H : Heap} {n : Nat} {g : Nat → Nat} {f : Nat → va_E} (hK : wK E s) (hP : wP E n g f H) (q0 : Nat) (hq : q0 < n) {ci : Nat} {fs : List Value} (he : f q0 = .inr (ci, fs)) {q : vw_C} (hc : vwCl[ci]? = some q) : ∃ cell : Cell, H[g q0]? = some cell ∧ cell.vm.isStatics = false ∧ s.vm.findClass q.1 = some cell.cls :=
  va_recv hK.1 hP hc (q0 := q0) (fs := fs) (by rw [wd_get hq, he])
/-- a static method without a world -/
def wS0 (E : wE) (U : State) : Prop := wK E U
theorem wS0.blind {E : wE} {av : List Value} : FrameBlind (va_Pc av (wS0 E)) := fun a U fr mk q => ⟨q.1, wK.calling fr mk a q.2⟩
theorem wS0.go {E : wE} {s U : State} {av : List Value} (hK : wK E s) (hW : s.WarmedH U.vm) : va_Pc av (wS0 E) av.toArray U := ⟨rfl, hK.warm hW⟩
theorem wU_blind {av : List Value} : FrameBlind (va_Pc av (fun _ => True)) := fun a U fr mk q => q
section WPUT
variable {p : Program} {l : Launch} {e : Env} {R : Room} {s : State} {m : MethodId} {args : Array Value} {below : List Frame} {meth : Method} {c : Code} {H : Heap} {locs : List Loc} {cells slots : Nat} {Q : State → Prop} {cc : ByteArray} {pc : Nat} {ls : Array Slot} {rest : List Value} {A : Nat → Prop} {H0 : Heap} {E : wE} {n : Nat} {ga : Nat → Nat} {f : Nat → va_E}
theorem w_get (hexec : p.tables.exec = Jvm.exec) (hb : c.code = cc) {own ref C : String} {T : u_T} {N ci index : Nat} {Ts : List Cond} (hts : ∀ w ∈ Ts, w.before args s = true) (hin : ∀ w ∈ u_ws C T N, w ∈ Ts) (hown : s.vm.findClass own = some m.cls) (hK : wK E s) (hP : wP E n ga f H) (q0 : Nat) (hq : q0 < n) {fs : List Value} (he : f q0 = .inr (ci, fs)) (hc : vwCl[ci]? = some (C, T, N)) (k : Nat) (hk : k < N) (hlink : (Cond.fieldLink own index ref (T k).2.1 (T k).2.2.1).before args s = true) (hsame : ∀ x, s.fieldFound? (T k).1 (T k).2.1 (T k).2.2.1 = some x → s.fieldFound? ref (T k).2.1 (T k).2.2.1 = some x) {v : Value} (hv : fs[k]? = some v) (hdg : decode cc pc = .ok (.getfield index, 3))
    (kk : W p l e R s m args below meth c H locs cells slots Q (F0 m (pc + 3) ls (v :: rest))) : W p l e R s m args below meth c H locs cells slots Q (F0 m pc ls (.ref (ga q0) :: rest)) :=
  va_get hexec hb hts hin hown hK.1 hP q0 (by rw [wd_get hq, he]) hc k hk hlink hsame hv hdg kk
theorem w_getN (hexec : p.tables.exec = Jvm.exec) (hb : c.code = cc) {own ref C host : String} {T : u_T} {N ci index : Nat} {Ts : List Cond} (hts : ∀ w ∈ Ts, w.before args s = true) (hin : ∀ w ∈ u_ws C T N, w ∈ Ts) (hown : s.vm.findClass own = some m.cls) (hK : wK E s) (hP : wP E n ga f H) (q0 : Nat) (hq : q0 < n) {fs : List Value} (he : f q0 = .inr (ci, fs)) (hc : vwCl[ci]? = some (C, T, N)) (k : Nat) (hk : k < N) (hlink : Cond.fieldLinkNest own index ref (T k).2.1 (T k).2.2.1 host ∈ wNest) (hsame : ∀ x, s.fieldFound? (T k).1 (T k).2.1 (T k).2.2.1 = some x → s.fieldFound? ref (T k).2.1 (T k).2.2.1 = some x) {v : Value} (hv : fs[k]? = some v) (hdg : decode cc pc = .ok (.getfield index, 3))
    (kk : W p l e R s m args below meth c H locs cells slots Q (F0 m (pc + 3) ls (v :: rest))) : W p l e R s m args below meth c H locs cells slots Q (F0 m pc ls (.ref (ga q0) :: rest)) :=
  va_getN hexec hb hts hin hown hK.1 hP q0 (by rw [wd_get hq, he]) hc k hk (va_Nw.use (wNest_tab hlink) (hK.2 _ hlink)) hsame hv hdg kk
theorem w_put (hexec : p.tables.exec = Jvm.exec) (hb : c.code = cc) {own ref C : String} {T : u_T} {N ci index : Nat} {Ts : List Cond} (hts : ∀ w ∈ Ts, w.before args s = true) (hin : ∀ w ∈ u_ws C T N, w ∈ Ts) (ty0 : Nat → FieldType) (hty : ∀ k, k < N → parseFieldDescriptor (T k).2.2.1 = some (ty0 k)) (hnm : ∀ a, a < N → ∀ b, b < N → a ≠ b → (T a).2.1 ≠ (T b).2.1) (hown : s.vm.findClass own = some m.cls) (hK : wK E s) (hP : wP E n ga f H) (hI : wI n ga) (hA : ∀ k, k < n → A (ga k)) (hS0 : va_S A H0 H locs) (q0 : Nat) (hq : q0 < n) {fs : List Value} (he : f q0 = .inr (ci, fs)) (hc : vwCl[ci]? = some (C, T, N)) (k : Nat) (hk : k < N) (hlink : (Cond.fieldLink own index ref (T k).2.1 (T k).2.2.1).before args s = true) (hsame : ∀ x, s.fieldFound? (T k).1 (T k).2.1 (T k).2.2.1 = some x → s.fieldFound? ref (T k).2.1 (T k).2.2.1 = some x) (hfin : (T k).2.2.2 = false) {ty : FieldType} {v : Value} (hd : parseFieldDescriptor (T k).2.2.1 = some ty) (hn : narrow ty v = v) (hfit : fits ty v = true) (hl : k < fs.length)
    (hdg : decode cc pc = .ok (.putfield index, 3)) (f2 : Nat → va_E) (hf1 : f2 q0 = .inr (ci, fs.set k v)) (hf2 : ∀ j, j < n → j ≠ q0 → f2 j = f j) (kk : ∀ (H1 : Heap) (locs1 : List Loc), wP E n ga f2 H1 → va_S A H0 H1 locs1 → W p l e R s m args below meth c H1 locs1 cells slots Q (F0 m (pc + 3) ls rest)) : W p l e R s m args below meth c H locs cells slots Q (F0 m pc ls (v :: .ref (ga q0) :: rest)) :=
  va_put hexec hb hts hin ty0 hty hnm hown hK.1 hP (wd_D hI hA) hS0 q0 (by rw [wd_get hq, he]) hc k hk hlink hsame hfin hd hn hfit hl hdg (fun H1 locs1 h1 _ h3 => kk H1 locs1 (by rw [wd_set hf1 hf2] at h1; exact h1) h3)
theorem w_putN (hexec : p.tables.exec = Jvm.exec) (hb : c.code = cc) {own ref C host : String} {T : u_T} {N ci index : Nat} {Ts : List Cond} (hts : ∀ w ∈ Ts, w.before args s = true) (hin : ∀ w ∈ u_ws C T N, w ∈ Ts) (ty0 : Nat → FieldType) (hty : ∀ k, k < N → parseFieldDescriptor (T k).2.2.1 = some (ty0 k)) (hnm : ∀ a, a < N → ∀ b, b < N → a ≠ b → (T a).2.1 ≠ (T b).2.1) (hown : s.vm.findClass own = some m.cls) (hK : wK E s) (hP : wP E n ga f H) (hI : wI n ga) (hA : ∀ k, k < n → A (ga k)) (hS0 : va_S A H0 H locs) (q0 : Nat) (hq : q0 < n) {fs : List Value} (he : f q0 = .inr (ci, fs)) (hc : vwCl[ci]? = some (C, T, N)) (k : Nat) (hk : k < N) (hlink : Cond.fieldLinkNest own index ref (T k).2.1 (T k).2.2.1 host ∈ wNest) (hsame : ∀ x, s.fieldFound? (T k).1 (T k).2.1 (T k).2.2.1 = some x → s.fieldFound? ref (T k).2.1 (T k).2.2.1 = some x) (hfin : (T k).2.2.2 = false) {ty : FieldType} {v : Value} (hd : parseFieldDescriptor (T k).2.2.1 = some ty) (hn : narrow ty v = v) (hfit : fits ty v = true) (hl : k < fs.length)
    (hdg : decode cc pc = .ok (.putfield index, 3)) (f2 : Nat → va_E) (hf1 : f2 q0 = .inr (ci, fs.set k v)) (hf2 : ∀ j, j < n → j ≠ q0 → f2 j = f j) (kk : ∀ (H1 : Heap) (locs1 : List Loc), wP E n ga f2 H1 → va_S A H0 H1 locs1 → W p l e R s m args below meth c H1 locs1 cells slots Q (F0 m (pc + 3) ls rest)) : W p l e R s m args below meth c H locs cells slots Q (F0 m pc ls (v :: .ref (ga q0) :: rest)) :=
  va_putN hexec hb hts hin ty0 hty hnm hown hK.1 hP (wd_D hI hA) hS0 q0 (by rw [wd_get hq, he]) hc k hk (va_Nw.use (wNest_tab hlink) (hK.2 _ hlink)) hsame hfin hd hn hfit hl hdg (fun H1 locs1 h1 _ h3 => kk H1 locs1 (by rw [wd_set hf1 hf2] at h1; exact h1) h3)
theorem w_iald (hexec : p.tables.exec = Jvm.exec) (hb : c.code = cc) (hK : wK E s) (hP : wP E n ga f H) (q0 : Nat) (hq : q0 < n) {z : Nat} {x : Nat → Int32} (ha : f q0 = .inl (E.2.1, z, .inl x)) {i : Int32} (hin : vp_in i z) (hdg : decode cc pc = .ok (.iaload, 1))
    (kk : W p l e R s m args below meth c H locs cells slots Q (F0 m (pc + 1) ls (.int (x i.toNatClampNeg) :: rest))) : W p l e R s m args below meth c H locs cells slots Q (F0 m pc ls (.int i :: .ref (ga q0) :: rest)) :=
  va_iald hexec hb hK.1 hP q0 0 (by rw [wd_get hq, ha]) rfl hin hdg kk
theorem w_iast (hexec : p.tables.exec = Jvm.exec) (hb : c.code = cc) (hK : wK E s) (hP : wP E n ga f H) (hI : wI n ga) (hA : ∀ k, k < n → A (ga k)) (hS : va_S A H0 H locs) (q0 : Nat) (hq : q0 < n) {z : Nat} {x : Nat → Int32} (ha : f q0 = .inl (E.2.1, z, .inl x)) {i v : Int32} (hin : vp_in i z) (hdg : decode cc pc = .ok (.iastore, 1)) (f2 : Nat → va_E) (hf1 : f2 q0 = .inl (E.2.1, z, .inl (upd x i.toNatClampNeg v))) (hf2 : ∀ j, j < n → j ≠ q0 → f2 j = f j)
    (kk : ∀ (H1 : Heap) (locs1 : List Loc), wP E n ga f2 H1 → va_S A H0 H1 locs1 → W p l e R s m args below meth c H1 locs1 cells slots Q (F0 m (pc + 1) ls rest)) : W p l e R s m args below meth c H locs cells slots Q (F0 m pc ls (.int v :: .int i :: .ref (ga q0) :: rest)) :=
  va_iast hexec hb hK.1 hP (wd_D hI hA) hS q0 0 (by rw [wd_get hq, ha]) rfl hin hdg (fun H1 locs1 h1 _ h3 => kk H1 locs1 (by rw [wd_set hf1 hf2] at h1; exact h1) h3)
theorem w_alen (hexec : p.tables.exec = Jvm.exec) (hb : c.code = cc) (hK : wK E s) (hP : wP E n ga f H) (q0 : Nat) (hq : q0 < n) {z : Nat} {x : (Nat → Int32) ⊕ (Nat → Int64) ⊕ (Nat → UInt32) ⊕ (Nat → UInt64) ⊕ (Nat → Option Nat)} (ha : f q0 = .inl (E.2.1, z, x)) {v : Int32} (hv : Int32.ofNat z = v) (hdg : decode cc pc = .ok (.arraylength, 1))
    (kk : W p l e R s m args below meth c H locs cells slots Q (F0 m (pc + 1) ls (.int v :: rest))) : W p l e R s m args below meth c H locs cells slots Q (F0 m pc ls (.ref (ga q0) :: rest)) :=
  va_alen hexec hb hK.1 hP q0 0 (x := (z, x)) (by rw [wd_get hq, ha]) (ty := .int) rfl hv hdg kk
end WPUT
