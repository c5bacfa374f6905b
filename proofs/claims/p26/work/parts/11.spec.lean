/-! THE CLASS'S WORDS, as its code has them -/
/-- Integer.bitCount, as the JDK has it -/
def sw1 (x : Int32) : Int32 := x - ((x.toUInt32 >>> ((1 : Int32).toUInt32 &&& Int32.toUInt32 31)).toInt32 &&& 1431655765)
def sw2 (x : Int32) : Int32 := (x &&& 858993459) + ((x.toUInt32 >>> ((2 : Int32).toUInt32 &&& Int32.toUInt32 31)).toInt32 &&& 858993459)
def sw3 (x : Int32) : Int32 := (x + (x.toUInt32 >>> ((4 : Int32).toUInt32 &&& Int32.toUInt32 31)).toInt32) &&& 252645135
def sw4 (x : Int32) : Int32 := x + (x.toUInt32 >>> ((8 : Int32).toUInt32 &&& Int32.toUInt32 31)).toInt32
def sw5 (x : Int32) : Int32 := (x + (x.toUInt32 >>> ((16 : Int32).toUInt32 &&& Int32.toUInt32 31)).toInt32) &&& 63
def swar (x : Int32) : Int32 := sw5 (sw4 (sw3 (sw2 (sw1 x))))
def bcI (y : Int32) : Int32 := swar (y &&& 4095)
def hld (m b : Int32) : Prop := (m >>> (b &&& 31)) &&& 1 = 1
def hldI (m b : Int32) : Int32 := if (m >>> (b &&& 31)) &&& 1 = 1 then 1 else 0
def bI (b : Bool) : Int32 := if b then 1 else 0
theorem bI_n (b : Bool) : narrow .boolean (.int (bI b)) = .int (bI b) := by cases b <;> rfl
theorem bI_f (b : Bool) : fits .boolean (.int (bI b)) = true := by cases b <;> rfl
theorem nI_ne_m1 {p : Nat} (h : p < 2 ^ 31) : ¬ nI p = -1 := by
  intro e
  have h1 := congrArg Int32.toInt e
  rw [nI_toInt h] at h1
  have h2 : (-1 : Int32).toInt = -1 := by decide
  rw [h2] at h1
  omega
/-- n steps from the i-th one on -/
def itr {σ : Type} (f : Nat → σ → σ) : Nat → Nat → σ → σ
  | 0, _, s => s
  | n + 1, i, s => itr f n (i + 1) (f i s)
theorem itr_s {σ : Type} (f : Nat → σ → σ) (n i : Nat) (s : σ) : itr f (n + 1) i s = itr f n (i + 1) (f i s) := rfl
/-- a receiver's three cells -/
def rcF (E : wE) (g : Nat → Nat) (li : Bool) (kb : Int32) (al lf : Nat → Int32) (wa : Nat) (go tn lo : Int32) : Nat → va_E := fun k => match k with
  | 0 => .inr (3, [.int (bI li), .int kb, .ref (g 1), .ref (g 2), .int (nI wa), .int go, .int tn, .int lo])
  | 1 => .inl (E.2.1, 12, .inl al)
  | _ => .inl (E.2.1, 24, .inl lf)
theorem rc_ne0 {E : wE} {g : Nat → Nat} {li li' : Bool} {kb kb' : Int32} {al lf : Nat → Int32} {wa wa' : Nat} {go go' tn tn' lo lo' : Int32} : ∀ j, j < 3 → j ≠ 0 → rcF E g li' kb' al lf wa' go' tn' lo' j = rcF E g li kb al lf wa go tn lo j := by
  intro j _ h
  match j, h with
  | 0, h => exact absurd rfl h
  | 1, _ => rfl
  | _ + 2, _ => rfl
theorem rc_ne1 {E : wE} {g : Nat → Nat} {li : Bool} {kb : Int32} {al al' lf : Nat → Int32} {wa : Nat} {go tn lo : Int32} : ∀ j, j < 3 → j ≠ 1 → rcF E g li kb al' lf wa go tn lo j = rcF E g li kb al lf wa go tn lo j := by
  intro j _ h
  match j, h with
  | 0, _ => rfl
  | 1, h => exact absurd rfl h
  | _ + 2, _ => rfl
theorem rc_ne2 {E : wE} {g : Nat → Nat} {li : Bool} {kb : Int32} {al lf lf' : Nat → Int32} {wa : Nat} {go tn lo : Int32} : ∀ j, j < 3 → j ≠ 2 → rcF E g li kb al lf' wa go tn lo j = rcF E g li kb al lf wa go tn lo j := by
  intro j h3 h
  match j, h, h3 with
  | 0, _, _ => rfl
  | 1, _, _ => rfl
  | 2, h, _ => exact absurd rfl h
  | _ + 3, _, h3 => exact absurd h3 (by omega)
/-- a receiver: the mixes that wait are a list -/
def rcP (E : wE) (g : Nat → Nat) (li : Bool) (kb : Int32) (al : Nat → Int32) (L : List Int32) (go tn lo : Int32) (H : Heap) : Prop :=
  L.length ≤ 24 ∧ ∃ lf : Nat → Int32, (∀ j, j < L.length → lf j = L.getD j 0) ∧ wP E 3 g (rcF E g li kb al lf L.length go tn lo) H
def leftOf (al : Nat → Int32) (x : Int32) : Int32 := itr (fun i r => if hldI r (nI i) = 0 then r else r ^^^ al i) 12 0 x
def isShort (y : Int32) : Bool := decide (¬ (2 : Int32) ≤ bcI y)
def fshort (L : List Int32) : Option Nat := L.findIdx? isShort
def fsI (L : List Int32) : Int32 := match fshort L with
  | none => -1
  | some p => nI p
def lrn (x y : Int32) : Int32 := if (y &&& x) &&& 4095 = 0 then y else y ^^^ x
def lrnA (x : Int32) (al : Nat → Int32) : Nat → Int32 := fun b => if b < 12 then (if hldI x (nI b) = 0 then al b else x) else al b
