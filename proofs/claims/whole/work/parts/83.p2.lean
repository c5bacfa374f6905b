/-! peeling -/
def wOK (K : Nat) (W : List Nat) : Prop := ∀ w ∈ W, w < 4096 ∧ w &&& K = 0
def encW (vn : Nat → Nat) (W : List Nat) : List Int32 := W.map (fun m => nI (mk vn m))
theorem encW_len (vn : Nat → Nat) (W : List Nat) : (encW vn W).length = W.length := List.length_map ..
theorem andn_or (w K m : Nat) : andn w m &&& K = 0 → andn w m &&& (K ||| m) = 0 := by
  intro h
  apply Nat.eq_of_testBit_eq
  intro i
  have h1 : (andn w m &&& K).testBit i = false := by rw [h]; exact Nat.zero_testBit i
  rw [Nat.testBit_and, andn_t] at h1
  rw [Nat.testBit_and, andn_t, Nat.testBit_or, Nat.zero_testBit]
  cases hw : w.testBit i <;> cases hm : m.testBit i <;> cases hK : K.testBit i <;> rw [hw, hm, hK] at h1 <;> first | rfl | (exact absurd h1 (by decide))
theorem sub_and {a b K : Nat} (h : b &&& K = 0) (hs : ∀ i, a.testBit i = true → b.testBit i = true) : a &&& K = 0 := by
  apply Nat.eq_of_testBit_eq
  intro i
  have h1 : (b &&& K).testBit i = false := by rw [h]; exact Nat.zero_testBit i
  rw [Nat.testBit_and] at h1
  rw [Nat.testBit_and, Nat.zero_testBit]
  cases ha : a.testBit i
  · rfl
  · rw [hs i ha] at h1
    rw [← h1]
theorem andn_sub {w m i : Nat} (h : (andn w m).testBit i = true) : w.testBit i = true := by
  rw [andn_t] at h
  cases q : w.testBit i
  · rw [q, Bool.false_and] at h; exact absurd h (by decide)
  · rfl
theorem knW_wOK {K m : Nat} {W : List Nat} (h : wOK K W) : wOK (K ||| m) (knW m W) := by
  intro w hw
  unfold knW at hw
  obtain ⟨x, hx, rfl⟩ := List.mem_map.mp hw
  exact ⟨andn_lt (h x hx).1, andn_or x K m (sub_and (h x hx).2 (fun i => andn_sub))⟩
theorem erW_wOK {K p : Nat} {W : List Nat} (h : wOK K W) : wOK K (W.eraseIdx p) := fun w hw => h w (List.mem_of_mem_eraseIdx hw)
theorem knW_0 {W : List Nat} : knW 0 W = W := by
  unfold knW
  rw [show (fun x => andn x 0) = id from by funext x; unfold andn; rw [Nat.and_zero, Nat.xor_zero]; rfl]
  exact List.map_id W
theorem map_lrn {vn : Nat → Nat} (hv : vOK vn) {K b : Nat} (hb : b < 12) : ∀ W : List Nat, wOK K W → (encW vn W).map (lrn (nI (mk vn (2 ^ b)))) = encW vn (knW (2 ^ b) W) := by
  intro W
  induction W with
  | nil => intro _; rfl
  | cons w W ih =>
    intro h
    show _ :: _ = _ :: _
    rw [lrn_mk hv (h w (List.mem_cons_self)).1 hb]
    congr 1
    exact ih (fun x hx => h x (List.mem_cons_of_mem _ hx))
theorem fshort_mk {vn : Nat → Nat} (hv : vOK vn) {K : Nat} : ∀ W : List Nat, wOK K W → fshort (encW vn W) = fsM W := by
  intro W
  unfold fshort fsM
  induction W with
  | nil => intro _; rfl
  | cons w W ih =>
    intro h
    show List.findIdx? isShort (nI (mk vn w) :: encW vn W) = _
    rw [List.findIdx?_cons, List.findIdx?_cons, ih (fun x hx => h x (List.mem_cons_of_mem _ hx))]
    have e : isShort (nI (mk vn w)) = decide (pc w < 2) := by
      unfold isShort
      rw [bcI_mk hv (h w List.mem_cons_self).1]
      have h2 := pc_le w
      refine decide_eq_decide.mpr ?_
      rw [show (2 : Int32) = nI 2 from rfl, nI_leI (by omega) (by omega)]
      omega
    rw [e]
theorem encW_getD {vn : Nat → Nat} {W : List Nat} {p : Nat} (h : p < W.length) : (encW vn W).getD p 0 = nI (mk vn (W.getD p 0)) := by
  unfold encW
  rw [List.getD_eq_getElem?_getD, List.getElem?_map, List.getElem?_eq_getElem h, getDN h]
  rfl
theorem encW_er {vn : Nat → Nat} : ∀ {W : List Nat} {p : Nat}, (encW vn W).eraseIdx p = encW vn (W.eraseIdx p) := by
  intro W
  induction W with
  | nil => intro p; rfl
  | cons w W ih =>
    intro p
    cases p with
    | zero => rfl
    | succ p =>
      show nI (mk vn w) :: (encW vn W).eraseIdx p = nI (mk vn w) :: encW vn (W.eraseIdx p)
      rw [ih]
theorem pcN_disj {a b : Nat} (h : a &&& b = 0) : ∀ i, pcN (a ||| b) i = pcN a i + pcN b i := by
  intro i
  induction i with
  | zero => rfl
  | succ i ih =>
    rw [pcN, pcN, pcN, ih, bN_t, bN_t, bN_t, Nat.testBit_or]
    have h1 : (a &&& b).testBit i = false := by rw [h]; exact Nat.zero_testBit i
    rw [Nat.testBit_and] at h1
    cases ha : a.testBit i <;> cases hb : b.testBit i <;> rw [ha, hb] at h1
    · show _ + 0 = _ + 0 + (_ + 0); omega
    · show _ + 1 = _ + 0 + (_ + 1); omega
    · show _ + 1 = _ + 1 + (_ + 0); omega
    · exact absurd h1 (by decide)
theorem pc_disj {a b : Nat} (h : a &&& b = 0) : pc (a ||| b) = pc a + pc b := pcN_disj h 12
theorem nI_diff (a b c : Nat) : (nI b - nI a) + (nI c - nI b) = nI c - nI a := by
  apply Int32.toBitVec_inj.mp
  show (BitVec.ofNat 32 b - BitVec.ofNat 32 a) + (BitVec.ofNat 32 c - BitVec.ofNat 32 b) = BitVec.ofNat 32 c - BitVec.ofNat 32 a
  generalize BitVec.ofNat 32 a = x
  generalize BitVec.ofNat 32 b = y
  generalize BitVec.ofNat 32 c = z
  bv_omega
theorem i_add_assoc (a b c : Int32) : a + b + c = a + (b + c) := Int32.add_assoc a b c
/-- one mix of less than two blocks is taken -/
theorem eat_mk {vn : Nat → Nat} (hv : vOK vn) {K m : Nat} {al : Nat → Int32} {W : List Nat} {tn fd : Int32} (hm : m < 4096) (hp : pc m < 2) (hd : m &&& K = 0) (ha : alR vn K al) (hW : wOK K W) (hK : K < 4096) :
    ∃ al', eatS (nI (mk vn m)) (nI K, al, encW vn W, tn, fd) = (nI (K ||| m), al', encW vn (knW m W), (if m = 0 then tn + 1 else tn), fd + (nI (pc (K ||| m)) - nI (pc K))) ∧ alR vn (K ||| m) al' := by
  by_cases h0 : m = 0
  · subst h0
    refine ⟨al, ?_, by rw [Nat.or_zero]; exact ha⟩
    rw [eatS_z (by rw [mk_0]; rfl), knW_0, Nat.or_zero, if_pos rfl]
    show (_, _, _, _, _) = (_, _, _, _, _)
    congr 4
    show fd = fd + (nI (pc K) - nI (pc K))
    rw [Int32.sub_self, Int32.add_zero]
  · have h1 : pc m = 1 := by
      rcases (show pc m = 0 ∨ pc m = 1 by omega) with h | h
      · exact absurd (pc_0 hm h) h0
      · exact h
    obtain ⟨b, hb, rfl⟩ := pc_1 hm h1
    refine ⟨lrnA (nI (mk vn (2 ^ b))) al, ?_, lrnA_mk hv ha hb⟩
    have hne : ¬ nI (mk vn (2 ^ b)) &&& 4095 = 0 := by
      rw [mkI_low hv hm]
      exact fun z => h0 ((nI_e0 (by omega)).mp z)
    rw [eatS_n hne, mkI_low hv hm, if_neg h0, map_lrn hv hb W hW, nI_or]
    show (_, _, _, _, _) = (_, _, _, _, _)
    congr 4
    rw [Nat.and_comm] at hd
    rw [pc_disj hd, h1]
    show fd + 1 = fd + (nI (pc K + 1) - nI (pc K))
    rw [pk_sub (by omega), Nat.add_sub_cancel_left]
    rfl
theorem getD_mem {W : List Nat} {p : Nat} (h : p < W.length) : W.getD p 0 ∈ W := by
  rw [getDN h]
  exact List.getElem_mem h
theorem fsM_pc {W : List Nat} {p : Nat} (h : fsM W = some p) : pc (W.getD p 0) < 2 := by
  obtain ⟨h1, h2, _⟩ := List.findIdx?_eq_some_iff_getElem.mp h
  rw [getDN h1]
  exact of_decide_eq_true h2
theorem peel_mk {vn : Nat → Nat} (hv : vOK vn) : ∀ (n m K : Nat) (al : Nat → Int32) (W : List Nat) (tn fd : Int32), m < 4096 → pc m < 2 → m &&& K = 0 → alR vn K al → wOK K W → K < 4096 →
    ∃ al', peelS n (nI (mk vn m)) (nI K, al, encW vn W, tn, fd) = (nI (plM n (K ||| m) (if m = 0 then tn + 1 else tn) (knW m W)).1, al', encW vn (plM n (K ||| m) (if m = 0 then tn + 1 else tn) (knW m W)).2.2, (plM n (K ||| m) (if m = 0 then tn + 1 else tn) (knW m W)).2.1, fd + (nI (pc (plM n (K ||| m) (if m = 0 then tn + 1 else tn) (knW m W)).1) - nI (pc K))) ∧ alR vn (plM n (K ||| m) (if m = 0 then tn + 1 else tn) (knW m W)).1 al' := by
  intro n
  induction n with
  | zero =>
    intro m K al W tn fd hm hp hd ha hW hK
    exact eat_mk hv hm hp hd ha hW hK
  | succ n ih =>
    intro m K al W tn fd hm hp hd ha hW hK
    obtain ⟨al1, e1, ha1⟩ := eat_mk (tn := tn) (fd := fd) hv hm hp hd ha hW hK
    have hW1 := knW_wOK (m := m) hW
    have hK1 := or_lt hK hm
    generalize (if m = 0 then tn + 1 else tn) = tn1 at e1 ⊢
    cases hf : fsM (knW m W) with
    | none =>
      rw [plM_none hf, peelS_none e1 (by show fshort (encW vn (knW m W)) = none; rw [fshort_mk hv _ hW1, hf])]
      exact ⟨al1, rfl, ha1⟩
    | some p =>
      have hl := fsM_lt hf
      have hmem := hW1 _ (getD_mem hl)
      rw [plM_some hf, peelS_some (p := p) e1 (by show fshort (encW vn (knW m W)) = some p; rw [fshort_mk hv _ hW1, hf])]
      obtain ⟨al2, e2, ha2⟩ := ih ((knW m W).getD p 0) (K ||| m) al1 ((knW m W).eraseIdx p) tn1 (fd + (nI (pc (K ||| m)) - nI (pc K))) hmem.1 (fsM_pc hf) hmem.2 ha1 (erW_wOK hW1) hK1
      refine ⟨al2, ?_, ha2⟩
      show peelS n ((encW vn (knW m W)).getD p 0) (nI (K ||| m), al1, (encW vn (knW m W)).eraseIdx p, tn1, fd + (nI (pc (K ||| m)) - nI (pc K))) = _
      rw [encW_getD hl, encW_er, e2]
      show (_, _, _, _, _) = (_, _, _, _, _)
      congr 4
      rw [i_add_assoc, nI_diff]
