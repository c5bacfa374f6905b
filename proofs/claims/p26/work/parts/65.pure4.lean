def ELR (vn : Nat → Nat) (R : List Nat) (q : ES) : Prop := rIv R ∧ q.2 = nI R.length ∧ ∃ ld, ldO R ld ∧ (∀ b, b < 12 → q.1 b = nI (mk vn (ld b)) ∧ ld b < 4096) ∧ ∀ m, m < 4096 → itr (lS ld) 12 0 m = xr R m
theorem lS_0 : ∀ n i m, itr (lS (fun _ => 0)) n i m = m := by
  intro n
  induction n with
  | zero => intro i m; rfl
  | succ n ih =>
    intro i m
    rw [itr_s, ih]
    unfold lS
    rw [Nat.xor_zero, ite_self]
theorem ELR_0 (vn : Nat → Nat) : ELR vn [] ((fun _ => 0), 0) := by
  refine ⟨rIv_0, rfl, fun _ => 0, ⟨fun b _ => ⟨(by decide : (0 : Nat) < 4096), Or.inl rfl⟩, fun y hy => absurd hy List.not_mem_nil⟩, fun b _ => ⟨?_, (by decide : (0 : Nat) < 4096)⟩, fun m _ => lS_0 12 0 m⟩
  show (0 : Int32) = nI (mk vn 0)
  rw [mk_0]
  rfl
theorem low_tb {x u : Nat} (h : x < 4096) (h0 : x ≠ 0) (hu : low x = 2 ^ u) : x.testBit u = true ∧ (∀ j, j < u → x.testBit j = false) := by
  obtain ⟨a, _, ea, ta, za⟩ := low_sp h h0
  have e : a = u := by
    have h9 : (2 ^ a).testBit u = (2 ^ u).testBit u := by rw [← ea, hu]
    rw [tb_pow, tb_pow, decide_eq_true rfl] at h9
    exact of_decide_eq_true h9
  subst e
  exact ⟨ta, za⟩
theorem lowN_sp2 : ∀ u, u < 12 → swar (nI (2 ^ u - 1)) = nI u := by decide +kernel
theorem lowN_mk {vn : Nat → Nat} (hv : vOK vn) {x u : Nat} (h : x < 4096) (h0 : x ≠ 0) (hu12 : u < 12) (hu : low x = 2 ^ u) : lowN (nI (mk vn x)) = u := by
  have hlt := mk_lt hv h
  have hne : mk vn x ≠ 0 := fun e => by
    have := mk_mod (vn := vn) h
    rw [e] at this
    exact h0 this.symm
  unfold lowN lowI
  have e1 : (nI (mk vn x) &&& -nI (mk vn x)) = nI (2 ^ u) := by
    rw [nI_neg (by omega), nI_and]
    congr 1
    have e2 : mk vn x = x + 4096 * vl vn x := by
      have h1 := Nat.div_add_mod (mk vn x) (2 ^ 12)
      rw [mk_mod h, mk_div h] at h1
      omega
    have e3 : 2 ^ 32 - mk vn x = (4096 - x) + 4096 * (2 ^ 20 - 1 - vl vn x) := by
      have : vl vn x < 65536 := vlN_lt hv x 12
      omega
    rw [e3]
    conv => lhs; lhs; rw [e2]
    have hvl : vl vn x < 2 ^ 20 := by have : vl vn x < 65536 := vlN_lt hv x 12; omega
    rw [and_split _ _ _ _ h (by omega), and_comp _ hvl]
    show low x + 0 = 2 ^ u
    rw [hu]
    rfl
  rw [e1, show (1 : Int32) = nI 1 from rfl, pk_sub (Nat.two_pow_pos u), lowN_sp2 u hu12]
  exact nI_clamp (by omega)
theorem clrA_mk {vn : Nat → Nat} (hv : vOK vn) {le : Nat → Int32} {ld : Nat → Nat} (hl : ∀ b, b < 12 → le b = nI (mk vn (ld b)) ∧ ld b < 4096) {x u : Nat} (hu : low x = 2 ^ u) (hu12 : u < 12) {b : Nat} (hb : b < 12) : clrA (nI (mk vn x)) u le 12 b = nI (mk vn (clr x (ld b))) := by
  obtain ⟨h1, h2⟩ := hl b hb
  unfold clrA
  rw [if_pos hb, h1, hld_mk hv h2 hu12]
  unfold clr
  rw [hu]
  cases q : (ld b).testBit u
  · rw [if_pos (by decide), if_pos (and_pow.mpr q)]
  · rw [if_pos rfl, if_neg (by decide), if_neg (fun e => by rw [and_pow.mp e] at q; exact absurd q (by decide)), nI_xor, mk_xor]
theorem ELR_s {vn : Nat → Nat} (hv : vOK vn) {R : List Nat} {q : ES} (h : ELR vn R q) {m : Nat} (hm : m < 4096) : ELR vn (redS R m) (addS (nI (mk vn m)) q) := by
  obtain ⟨le, ro⟩ := q
  obtain ⟨hR, hro, ld, hd, hl, hlx⟩ := h
  have hl : ∀ b, b < 12 → le b = nI (mk vn (ld b)) ∧ ld b < 4096 := hl
  have hlo : leftOf le (nI (mk vn m)) = nI (mk vn (xr R m)) := by rw [leftOf_ld hv hl hm, hlx m hm]
  obtain ⟨hx, _⟩ := xr_sp hR hm
  have hno : ∀ y ∈ R, xr R m &&& low y = 0 := fun y hy => xr_mem hR hm hy
  have hiv := redS_iv hR hm
  have hlen : xr R m ≠ 0 → (redS R m).length = R.length + 1 := redS_len
  have hredn : xr R m ≠ 0 → redS R m = R.map (clr (xr R m)) ++ [xr R m] := fun h => by unfold redS; rw [if_neg h]
  have hred0 : xr R m = 0 → redS R m = R := fun h => by unfold redS; rw [if_pos h]
  unfold addS
  rw [show leftOf (le, ro).1 (nI (mk vn m)) = nI (mk vn (xr R m)) from hlo, mkI_low hv hx]
  generalize xr R m = x at hx hno hlen hredn hred0
  by_cases h0 : x = 0
  · rw [hred0 h0, if_pos (by rw [h0]; rfl)]
    exact ⟨hR, hro, ld, hd, hl, hlx⟩
  · have hnz : ¬ nI x = 0 := fun z => h0 ((nI_e0 (by omega)).mp z)
    rw [if_neg hnz]
    obtain ⟨u, hu12, hu, tu, zu⟩ := low_sp hx h0
    rw [lowN_mk hv hx h0 hu12 hu]
    refine ⟨hiv, ?_, fun b => if b = u then x else clr x (ld b), ⟨fun b hb => ?_, fun y hy => ?_⟩, fun b hb => ?_, fun m' hm' => ?_⟩
    · show ro + 1 = _
      rw [hlen h0, show ro = nI R.length from hro, nI_1]
    · show (if b = u then x else clr x (ld b)) < 4096 ∧ ((if b = u then x else clr x (ld b)) = 0 ∨ ((if b = u then x else clr x (ld b)) ∈ redS R m ∧ low (if b = u then x else clr x (ld b)) = 2 ^ b))
      rw [hredn h0]
      by_cases e : b = u
      · rw [if_pos e]
        exact ⟨hx, Or.inr ⟨List.mem_append_right _ (List.mem_singleton.mpr rfl), by rw [e]; exact hu⟩⟩
      · rw [if_neg e]
        rcases (hd.1 b hb).2 with q | ⟨q1, q2⟩
        · have : clr x (ld b) = 0 := by rw [q]; unfold clr; rw [Nat.zero_and, if_pos rfl]
          rw [this]
          exact ⟨by decide, Or.inl rfl⟩
        · obtain ⟨hy1, hy2⟩ := rIv_mem hR q1
          obtain ⟨ta, za⟩ := low_tb hy1 hy2 q2
          have hxa := hno _ q1
          rw [q2, and_pow] at hxa
          obtain ⟨c1, c2, _⟩ := clr_sp hx hy1 q2 ta za hu tu zu hxa
          exact ⟨c1, Or.inr ⟨List.mem_append_left _ (List.mem_map.mpr ⟨_, q1, rfl⟩), c2⟩⟩
    · rw [hredn h0] at hy
      rcases List.mem_append.mp hy with hy | hy
      · obtain ⟨w, hw, rfl⟩ := List.mem_map.mp hy
        obtain ⟨b, hb, e1, e2⟩ := hd.2 w hw
        obtain ⟨hy1, hy2⟩ := rIv_mem hR hw
        obtain ⟨ta, za⟩ := low_tb hy1 hy2 e1
        have hxa := hno _ hw
        rw [e1, and_pow] at hxa
        obtain ⟨_, c2, _⟩ := clr_sp hx hy1 e1 ta za hu tu zu hxa
        have hbu : b ≠ u := fun z => by rw [z, tu] at hxa; exact absurd hxa (by decide)
        exact ⟨b, hb, c2, by show (if b = u then x else clr x (ld b)) = clr x w; rw [if_neg hbu, e2]⟩
      · rw [List.mem_singleton.mp hy]
        exact ⟨u, hu12, hu, if_pos rfl⟩
    · show upd (clrA (nI (mk vn x)) u le 12) u (nI (mk vn x)) b = nI (mk vn (if b = u then x else clr x (ld b))) ∧ (if b = u then x else clr x (ld b)) < 4096
      by_cases e : b = u
      · rw [if_pos e, e, pk_us]
        exact ⟨rfl, hx⟩
      · rw [if_neg e, pk_un e, clrA_mk hv hl hu hu12 hb]
        refine ⟨rfl, ?_⟩
        unfold clr
        split
        · exact (hl b hb).2
        · exact xor_lt (hl b hb).2 hx
    · rw [hredn h0, xr_add hR hx hu tu zu hno m', ← hlx m' hm']
      exact ld_add hR hd hx hu12 hu tu zu hno 12 0 m' m' rfl (Or.inl rfl) (fun h => absurd h (Nat.not_lt_zero u))
theorem ELR_fold {vn : Nat → Nat} (hv : vOK vn) : ∀ (W R : List Nat) (q : ES), ELR vn R q → (∀ w ∈ W, w < 4096) → ELR vn (W.foldl redS R) ((encW vn W).foldl (fun q x => addS x q) q) := by
  intro W
  induction W with
  | nil => intro R q h _; exact h
  | cons w W ih =>
    intro R q h hW
    show ELR vn (W.foldl redS (redS R w)) ((encW vn W).foldl (fun q x => addS x q) (addS (nI (mk vn w)) q))
    exact ih _ _ (ELR_s hv h (hW w List.mem_cons_self)) (fun x hx => hW x (List.mem_cons_of_mem _ hx))
theorem look_mk {vn : Nat → Nat} (hv : vOK vn) {W : List Nat} (hW : ∀ w ∈ W, w < 4096) : ELR vn (redW W) (lookS (encW vn W)) := ELR_fold hv W [] _ (ELR_0 vn) hW
/-- blocks that some row tells alone -/
theorem aln_mem : ∀ (L : List Nat) (a b : Nat), (∀ y ∈ L, y < 4096) → b < 12 → ((L.foldl alS a).testBit b = true ↔ a.testBit b = true ∨ 2 ^ b ∈ L) := by
  intro L
  induction L with
  | nil => intro a b _ _; simp
  | cons y L ih =>
    intro a b hL hb
    rw [List.foldl_cons, ih _ b (fun y hy => hL y (List.mem_cons_of_mem _ hy)) hb]
    have hy := hL y List.mem_cons_self
    unfold alS
    by_cases h1 : pc y = 1
    · rw [if_pos h1, Nat.testBit_or]
      obtain ⟨c, hc, rfl⟩ := pc_1 hy h1
      rw [tb_pow]
      constructor
      · rintro (h | h)
        · cases ha : a.testBit b
          · rw [ha, Bool.false_or] at h
            rw [of_decide_eq_true h]
            exact Or.inr List.mem_cons_self
          · exact Or.inl rfl
        · exact Or.inr (List.mem_cons_of_mem _ h)
      · rintro (h | h)
        · left; rw [h]; rfl
        · rcases List.mem_cons.mp h with h | h
          · left
            have h9 : (2 ^ b).testBit b = (2 ^ c).testBit b := by rw [h]
            rw [tb_pow, tb_pow, decide_eq_true rfl] at h9
            rw [← h9, Bool.or_true]
          · exact Or.inr h
    · rw [if_neg h1]
      constructor
      · rintro (h | h)
        · exact Or.inl h
        · exact Or.inr (List.mem_cons_of_mem _ h)
      · rintro (h | h)
        · exact Or.inl h
        · rcases List.mem_cons.mp h with h | h
          · exact absurd (by rw [← h]; exact pc_pow hb) h1
          · exact Or.inr h
theorem low_pow {b : Nat} (h : b < 12) : low (2 ^ b) = 2 ^ b := by
  have : ∀ b, b < 12 → low (2 ^ b) = 2 ^ b := by decide +kernel
  exact this b h
theorem tells_mk {vn : Nat → Nat} (hv : vOK vn) {W : List Nat} (hW : ∀ w ∈ W, w < 4096) {b : Nat} (hb : b < 12) :
    tellsI ((lookS (encW vn W)).1 b) b = (if (alnM (redW W)).testBit b = true then 1 else 0) ∧ ((alnM (redW W)).testBit b = true → (lookS (encW vn W)).1 b = nI (mk vn (2 ^ b))) := by
  obtain ⟨hR, _, ld, hd, hl, _⟩ := look_mk hv hW
  obtain ⟨h1, h2⟩ := hl b hb
  have key : (alnM (redW W)).testBit b = true ↔ ld b = 2 ^ b := by
    unfold alnM
    rw [aln_mem _ 0 b (fun y hy => (rIv_mem hR hy).1) hb]
    constructor
    · rintro (h | h)
      · rw [Nat.zero_testBit] at h; exact absurd h (by decide)
      · obtain ⟨c, hc, e1, e2⟩ := hd.2 _ h
        rw [low_pow hb] at e1
        have h9 : (2 ^ b).testBit c = (2 ^ c).testBit c := by rw [e1]
        rw [tb_pow, tb_pow, decide_eq_true rfl] at h9
        rw [← of_decide_eq_true h9] at e2
        exact e2
    · intro h
      right
      rcases (hd.1 b hb).2 with q | ⟨q, _⟩
      · rw [q] at h
        have := Nat.two_pow_pos b
        omega
      · rw [h] at q; exact q
  constructor
  · unfold tellsI
    rw [h1, mkI_low hv h2, shl1 (by omega)]
    by_cases h : ld b = 2 ^ b
    · rw [if_pos (by rw [h]), if_pos (key.mpr h)]
    · rw [if_neg (fun z => h ((nI_eq (by omega) (by have := pow12 hb; omega)).mp z)), if_neg (fun z => h (key.mp z))]
  · intro h
    rw [h1, key.mp h]
theorem rank_mk {vn : Nat → Nat} (hv : vOK vn) {nb : Nat} (hn : nb ≤ 12) {q : RS} {p : MQ5} (hq : RQ vn q p) (hi : MI nb p) : rankQ q = rnkM p := by
  obtain ⟨e1, _, e3, _⟩ := hq
  have hW : ∀ w ∈ p.2.2.2.2, w < 4096 := fun w hw => (MI_wOK hn hi w hw).1
  unfold rankQ rnkM
  rw [e1, e3, (look_mk hv hW).2.1, swar_pc (Nat.lt_of_lt_of_le hi.1 (pow_nb hn)), nI_add]
/-- one block of an elimination -/
theorem find_mk {vn : Nat → Nat} (hv : vOK vn) {W0 : List Nat} (hW0 : ∀ w ∈ W0, w < 4096) {b : Nat} (hb : b < 12) {K : Nat} {al : Nat → Int32} {W : List Nat} {tn fd : Int32} (ha : alR vn K al) (hW : wOK K W) (hK : K < 4096) :
    ∃ al', findB (lookS (encW vn W0)).1 b (nI K, al, encW vn W, tn, fd) = (nI (elS (alnM (redW W0)) b (K, tn, W)).1, al', encW vn (elS (alnM (redW W0)) b (K, tn, W)).2.2, (elS (alnM (redW W0)) b (K, tn, W)).2.1, fd + (nI (pc (elS (alnM (redW W0)) b (K, tn, W)).1) - nI (pc K))) ∧ alR vn (elS (alnM (redW W0)) b (K, tn, W)).1 al' := by
  obtain ⟨t1, t2⟩ := tells_mk hv hW0 hb
  have same : (nI K, al, encW vn W, tn, fd) = (nI K, al, encW vn W, tn, fd + (nI (pc K) - nI (pc K))) := by rw [nI_zero_sub, Int32.add_zero]
  unfold elS
  cases ht : (alnM (redW W0)).testBit b
  · rw [if_neg (by decide)]
    rw [ht, if_neg (by decide)] at t1
    exact ⟨al, by rw [findB_n (e := (lookS (encW vn W0)).1) (b := b) (q := (nI K, al, encW vn W, tn, fd)) t1]; exact same, ha⟩
  · rw [if_pos rfl]
    rw [ht, if_pos rfl] at t1
    have t1' : ¬ tellsI ((lookS (encW vn W0)).1 b) b = 0 := by rw [t1]; decide
    cases hk : K.testBit b
    · rw [if_neg (by decide)]
      have hk0 : hldI (nI K) (nI b) = 0 := by rw [hld_nI (by omega) (by omega), hk]; rfl
      rw [findB_y (e := (lookS (encW vn W0)).1) (b := b) (q := (nI K, al, encW vn W, tn, fd)) t1' hk0]
      have hd : 2 ^ b &&& K = 0 := by rw [Nat.and_comm]; exact and_pow.mpr hk
      obtain ⟨al2, e2, ha2⟩ := peel_mk hv (encW vn W).length (2 ^ b) K al W tn 0 (pow12 hb) (by rw [pc_pow hb]; decide) hd ha hW hK
      rw [if_neg (by have := Nat.two_pow_pos b; omega)] at e2 ha2
      show ∃ al', ((peelS (encW vn W).length ((lookS (encW vn W0)).1 b) (nI K, al, encW vn W, tn, 0)).1, (peelS (encW vn W).length ((lookS (encW vn W0)).1 b) (nI K, al, encW vn W, tn, 0)).2.1, (peelS (encW vn W).length ((lookS (encW vn W0)).1 b) (nI K, al, encW vn W, tn, 0)).2.2.1, (peelS (encW vn W).length ((lookS (encW vn W0)).1 b) (nI K, al, encW vn W, tn, 0)).2.2.2.1, fd + (peelS (encW vn W).length ((lookS (encW vn W0)).1 b) (nI K, al, encW vn W, tn, 0)).2.2.2.2) = _ ∧ _
      rw [t2 ht, e2, knW_len]
      rw [encW_len] at ha2 ⊢
      refine ⟨al2, ?_, ha2⟩
      show (_, _, _, _, fd + (0 + _)) = _
      rw [Int32.zero_add]
    · rw [if_pos rfl]
      have hk0 : ¬ hldI (nI K) (nI b) = 0 := by rw [hld_nI (by omega) (by omega), hk]; decide
      exact ⟨al, by rw [findB_k (e := (lookS (encW vn W0)).1) (b := b) (q := (nI K, al, encW vn W, tn, fd)) hk0]; exact same, ha⟩
/-- what an elimination keeps -/
theorem elS_inv {nb fo b : Nat} (hbn : b < nb) {q : Nat × Int32 × List Nat} (hn : nb ≤ 12) (hK : q.1 < 2 ^ nb) (hW : ∀ w ∈ q.2.2, w < 2 ^ nb ∧ w &&& q.1 = 0 ∧ 2 ≤ pc w) :
    (elS fo b q).1 < 2 ^ nb ∧ (∀ w ∈ (elS fo b q).2.2, w < 2 ^ nb ∧ w &&& (elS fo b q).1 = 0 ∧ 2 ≤ pc w) ∧ subB q.1 (elS fo b q).1 ∧ (fo.testBit b = true → (elS fo b q).1.testBit b = true) ∧ ∃ c, (elS fo b q).2.1 = q.2.1 + nI c ∧ c + (elS fo b q).2.2.length ≤ q.2.2.length := by
  have h0 : ∃ c, q.2.1 = q.2.1 + nI c ∧ c + q.2.2.length ≤ q.2.2.length := ⟨0, (Int32.add_zero _).symm, Nat.le_of_eq (Nat.zero_add _)⟩
  unfold elS
  cases ht : fo.testBit b
  · rw [if_neg (by decide)]
    exact ⟨hK, hW, fun _ h => h, fun h => absurd h (by decide), h0⟩
  · rw [if_pos rfl]
    by_cases hk : q.1.testBit b = true
    · rw [if_pos hk]
      exact ⟨hK, hW, fun _ h => h, fun _ => hk, h0⟩
    · rw [if_neg hk]
      have hwok : wOK q.1 q.2.2 := fun w hw => ⟨Nat.lt_of_lt_of_le (hW w hw).1 (pow_nb hn), (hW w hw).2.1⟩
      have hp : 2 ^ b < 2 ^ nb := Nat.pow_lt_pow_right (a := 2) (by decide) hbn
      obtain ⟨i1, i2, i3, i4, i5, c, i6, i7⟩ := plM_inv (nb := nb) (knW (2 ^ b) q.2.2).length (q.1 ||| 2 ^ b) q.2.1 (knW (2 ^ b) q.2.2) (knW_wOK hwok) (Nat.or_lt_two_pow hK hp) (knW_ltb (fun w hw => (hW w hw).1))
      refine ⟨i1, fun w hw => ⟨i3 w hw, (i2 w hw).2, i5 (Nat.le_refl _) w hw⟩, subB_tr subB_or i4, fun _ => i4 b (by rw [Nat.testBit_or, tb_pow, decide_eq_true rfl, Bool.or_true]), c, i6, Nat.le_trans i7 (Nat.le_of_eq (knW_len _ _))⟩
theorem xr_cl {P : Nat → Prop} (hx : ∀ a b, P a → P b → P (a ^^^ b)) : ∀ (L : List Nat) (m : Nat), (∀ y ∈ L, P y) → P m → P (L.foldl xS m) := by
  intro L
  induction L with
  | nil => intro m _ h; exact h
  | cons y L ih =>
    intro m hL hm
    rw [List.foldl_cons]
    refine ih _ (fun z hz => hL z (List.mem_cons_of_mem _ hz)) ?_
    unfold xS
    split
    · exact hm
    · exact hx _ _ hm (hL y List.mem_cons_self)
theorem redS_cl {P : Nat → Prop} (hx : ∀ a b, P a → P b → P (a ^^^ b)) {R : List Nat} {m : Nat} (hR : ∀ y ∈ R, P y) (hm : P m) : ∀ y ∈ redS R m, P y := by
  have h1 : P (xr R m) := xr_cl hx R m hR hm
  unfold redS
  split
  · exact hR
  · intro y hy
    rcases List.mem_append.mp hy with hy | hy
    · obtain ⟨w, hw, rfl⟩ := List.mem_map.mp hy
      rcases clr_or (x := xr R m) (y := w) with e | e <;> rw [e]
      · exact hR w hw
      · exact hx _ _ (hR w hw) h1
    · rw [List.mem_singleton.mp hy]; exact h1
theorem redW_cl {P : Nat → Prop} (hx : ∀ a b, P a → P b → P (a ^^^ b)) : ∀ (W R : List Nat), (∀ y ∈ R, P y) → (∀ w ∈ W, P w) → ∀ y ∈ W.foldl redS R, P y := by
  intro W
  induction W with
  | nil => intro R hR _; exact hR
  | cons w W ih =>
    intro R hR hW
    rw [List.foldl_cons]
    exact ih _ (redS_cl hx hR (hW w List.mem_cons_self)) (fun z hz => hW z (List.mem_cons_of_mem _ hz))
theorem xor_and0 {a b K : Nat} (ha : a &&& K = 0) (hb : b &&& K = 0) : (a ^^^ b) &&& K = 0 := by
  rw [Nat.and_xor_distrib_right, ha, hb]
  rfl
theorem fo_lt {nb : Nat} {W : List Nat} (hn : nb ≤ 12) (hW : ∀ w ∈ W, w < 2 ^ nb) {b : Nat} (h : (alnM (redW W)).testBit b = true) (hb : b < 12) : b < nb := by
  have h4 : ∀ y ∈ redW W, y < 2 ^ nb := redW_cl (P := fun y => y < 2 ^ nb) (fun a b ha hb => Nat.xor_lt_two_pow ha hb) W [] (fun y hy => absurd hy List.not_mem_nil) hW
  have h5 := (aln_mem (redW W) 0 b (fun y hy => Nat.lt_of_lt_of_le (h4 y hy) (pow_nb hn)) hb).mp h
  rcases h5 with h5 | h5
  · rw [Nat.zero_testBit] at h5; exact absurd h5 (by decide)
  · exact (Nat.pow_lt_pow_iff_right (a := 2) (by decide)).mp (h4 _ h5)
theorem fo_disj {K : Nat} {W : List Nat} (hW : ∀ w ∈ W, w < 4096 ∧ w &&& K = 0) : alnM (redW W) &&& K = 0 := by
  have h4 : ∀ y ∈ redW W, y < 4096 ∧ y &&& K = 0 := redW_cl (P := fun y => y < 4096 ∧ y &&& K = 0) (fun a b ha hb => ⟨xor_lt ha.1 hb.1, xor_and0 ha.2 hb.2⟩) W [] (fun y hy => absurd hy List.not_mem_nil) hW
  have hlt : alnM (redW W) < 4096 := aln_fold _ 0 (by decide) (fun k hk => (h4 _ (getD_mem hk)).1)
  apply Nat.eq_of_testBit_eq
  intro i
  rw [Nat.testBit_and, Nat.zero_testBit]
  by_cases hi : i < 12
  · cases h : (alnM (redW W)).testBit i
    · rfl
    · rcases (aln_mem (redW W) 0 i (fun y hy => (h4 y hy).1) hi).mp h with h5 | h5
      · rw [Nat.zero_testBit] at h5; exact absurd h5 (by decide)
      · have h6 := (h4 _ h5).2
        rw [Nat.and_comm] at h6
        rw [and_pow.mp h6]; rfl
  · rw [tb_hi hlt (by omega)]; rfl
theorem itr_add {σ : Type} (f : Nat → σ → σ) : ∀ (n m i : Nat) (s : σ), itr f (n + m) i s = itr f m (i + n) (itr f n i s) := by
  intro n
  induction n with
  | zero => intro m i s; rw [Nat.zero_add]; rfl
  | succ n ih =>
    intro m i s
    rw [show n + 1 + m = (n + m) + 1 by omega, itr_s, itr_s, ih, show i + 1 + n = i + (n + 1) by omega]
theorem elS_id {fo b : Nat} {q : Nat × Int32 × List Nat} (h : fo.testBit b = false) : elS fo b q = q := by
  unfold elS
  rw [h, if_neg (by decide)]
theorem itr_id {σ : Type} {f : Nat → σ → σ} : ∀ (n i : Nat) (s : σ), (∀ j s, i ≤ j → f j s = s) → itr f n i s = s := by
  intro n
  induction n with
  | zero => intro i s _; rfl
  | succ n ih =>
    intro i s h
    rw [itr_s, h i s (Nat.le_refl i)]
    exact ih (i + 1) s (fun j s hj => h j s (by omega))
/-- the class goes through all twelve, the reference through those there are -/
theorem elM_12 {nb : Nat} (hn : nb ≤ 12) {fo : Nat} (hfo : fo < 4096) (hf : ∀ b, b < 12 → fo.testBit b = true → b < nb) (q : Nat × Int32 × List Nat) : itr (elS fo) 12 0 q = elM nb fo q := by
  unfold elM
  rw [show 12 = nb + (12 - nb) by omega, itr_add]
  refine itr_id _ _ _ fun j s hj => elS_id ?_
  cases h : fo.testBit j
  · rfl
  · by_cases hj2 : j < 12
    · have := hf j hj2 h
      omega
    · rw [tb_hi hfo (by omega)] at h
      exact absurd h (by decide)
def q3OK (nb : Nat) (q : Nat × Int32 × List Nat) : Prop := q.1 < 2 ^ nb ∧ ∀ w ∈ q.2.2, w < 2 ^ nb ∧ w &&& q.1 = 0 ∧ 2 ≤ pc w
theorem elS_inv2 {nb fo b : Nat} (hf : fo.testBit b = true → b < nb) {q : Nat × Int32 × List Nat} (hn : nb ≤ 12) (h : q3OK nb q) :
    q3OK nb (elS fo b q) ∧ subB q.1 (elS fo b q).1 ∧ (fo.testBit b = true → (elS fo b q).1.testBit b = true) ∧ ∃ c, (elS fo b q).2.1 = q.2.1 + nI c ∧ c + (elS fo b q).2.2.length ≤ q.2.2.length := by
  cases hb : fo.testBit b
  · rw [elS_id hb]
    exact ⟨h, fun _ h => h, fun h => absurd h (by decide), 0, (Int32.add_zero _).symm, Nat.le_of_eq (Nat.zero_add _)⟩
  · obtain ⟨h1, h2, h3, h4, h5⟩ := elS_inv (fo := fo) (hf hb) hn h.1 h.2
    rw [hb] at h4
    exact ⟨⟨h1, h2⟩, h3, h4, h5⟩
theorem elF_inv {nb fo : Nat} (hn : nb ≤ 12) : ∀ (n i : Nat) (q : Nat × Int32 × List Nat), (∀ b, i ≤ b → b < i + n → fo.testBit b = true → b < nb) → q3OK nb q →
    q3OK nb (itr (elS fo) n i q) ∧ subB q.1 (itr (elS fo) n i q).1 ∧ (∀ b, i ≤ b → b < i + n → fo.testBit b = true → (itr (elS fo) n i q).1.testBit b = true) ∧ ∃ c, (itr (elS fo) n i q).2.1 = q.2.1 + nI c ∧ c + (itr (elS fo) n i q).2.2.length ≤ q.2.2.length := by
  intro n
  induction n with
  | zero => intro i q _ h; exact ⟨h, fun _ h => h, fun b h1 h2 _ => absurd h2 (by omega), 0, (Int32.add_zero _).symm, Nat.le_of_eq (Nat.zero_add _)⟩
  | succ n ih =>
    intro i q hf h
    obtain ⟨g1, g2, g3, c, g4, g5⟩ := elS_inv2 (hf i (Nat.le_refl i) (by omega)) hn h
    obtain ⟨k1, k2, k3, c2, k4, k5⟩ := ih (i + 1) (elS fo i q) (fun b h1 h2 => hf b (by omega) (by omega)) g1
    rw [itr_s]
    refine ⟨k1, subB_tr g2 k2, fun b h1 h2 hb => ?_, c + c2, ?_, by omega⟩
    · by_cases e : b = i
      · subst e; exact k2 b (g3 hb)
      · exact k3 b (by omega) (by omega) hb
    · rw [k4, g4, Int32.add_assoc, nI_add]
theorem find_fold {vn : Nat → Nat} (hv : vOK vn) {W0 : List Nat} (hW0 : ∀ w ∈ W0, w < 4096) {nb : Nat} (hn : nb ≤ 12) (hf : ∀ b, b < 12 → (alnM (redW W0)).testBit b = true → b < nb) : ∀ (n i K : Nat) (al : Nat → Int32) (W : List Nat) (tn fd : Int32), i + n = 12 → alR vn K al → q3OK nb (K, tn, W) →
    ∃ al', itr (findB (lookS (encW vn W0)).1) n i (nI K, al, encW vn W, tn, fd) = (nI (itr (elS (alnM (redW W0))) n i (K, tn, W)).1, al', encW vn (itr (elS (alnM (redW W0))) n i (K, tn, W)).2.2, (itr (elS (alnM (redW W0))) n i (K, tn, W)).2.1, fd + (nI (pc (itr (elS (alnM (redW W0))) n i (K, tn, W)).1) - nI (pc K))) ∧ alR vn (itr (elS (alnM (redW W0))) n i (K, tn, W)).1 al' := by
  intro n
  induction n with
  | zero =>
    intro i K al W tn fd _ ha _
    refine ⟨al, ?_, ha⟩
    show (nI K, al, encW vn W, tn, fd) = (nI K, al, encW vn W, tn, fd + (nI (pc K) - nI (pc K)))
    rw [nI_zero_sub, Int32.add_zero]
  | succ n ih =>
    intro i K al W tn fd hi ha h
    have hwok : wOK K W := fun w hw => ⟨Nat.lt_of_lt_of_le (h.2 w hw).1 (pow_nb hn), (h.2 w hw).2.1⟩
    obtain ⟨al1, e1, ha1⟩ := find_mk (tn := tn) (fd := fd) hv hW0 (b := i) (by omega) ha hwok (Nat.lt_of_lt_of_le h.1 (pow_nb hn))
    obtain ⟨g1, _⟩ := elS_inv2 (hf i (by omega)) hn h
    rw [itr_s, itr_s, e1]
    generalize elS (alnM (redW W0)) i (K, tn, W) = q2 at ha1 g1 ⊢
    obtain ⟨K2, tn2, W2⟩ := q2
    obtain ⟨al2, e2, ha2⟩ := ih (i + 1) K2 al1 W2 tn2 (fd + (nI (pc K2) - nI (pc K))) (by omega) ha1 g1
    refine ⟨al2, ?_, ha2⟩
    rw [e2, i_add_assoc, nI_diff]
/-- a receiver eliminates -/
theorem elim_mk {vn : Nat → Nat} (hv : vOK vn) {nb : Nat} (hn : nb ≤ 12) {q : RS} {p : MQ5} (hq : RQ vn q p) (hi : MI nb p) :
    (findS q).2.2.2.2 = nI (pc (elmQ nb p).1) - nI (pc p.1) ∧ RQ vn (elimQ q) (elmQ nb p) ∧ MI nb (elmQ nb p) ∧ subB p.1 (elmQ nb p).1 ∧ (∀ b, b < nb → (alnM (redW p.2.2.2.2)).testBit b = true → (elmQ nb p).1.testBit b = true) ∧ ∀ B, CN B p → CN B (elmQ nb p) := by
  obtain ⟨kb, al, L, go, tn, lo⟩ := q
  obtain ⟨K, go2, tn2, lo2, W⟩ := p
  obtain ⟨e1, ha, e3, e4, e5, e6⟩ := hq
  replace e1 : kb = nI K := e1
  replace e3 : L = encW vn W := e3
  replace e4 : go = go2 := e4
  replace e5 : tn = tn2 := e5
  replace e6 : lo = lo2 := e6
  replace ha : alR vn K al := ha
  subst e1 e3 e4 e5 e6
  have hWb : ∀ w ∈ W, w < 2 ^ nb := fun w hw => (hi.2.1 w hw).1
  have hW4 : ∀ w ∈ W, w < 4096 := fun w hw => Nat.lt_of_lt_of_le (hWb w hw) (pow_nb hn)
  have hlt : alnM (redW W) < 4096 := alnM_lt (fun k hk => hW4 _ (getD_mem hk))
  have hf : ∀ b, b < 12 → (alnM (redW W)).testBit b = true → b < nb := fun b hb h => fo_lt hn hWb h hb
  have h3 : q3OK nb (K, tn, W) := ⟨hi.1, hi.2.1⟩
  obtain ⟨al2, e2, ha2⟩ := find_fold hv hW4 hn hf 12 0 K al W tn 0 rfl ha h3
  rw [elM_12 hn hlt hf] at e2 ha2
  obtain ⟨k1, k2, k3, c, k4, k5⟩ := elF_inv (fo := alnM (redW W)) hn nb 0 (K, tn, W) (fun b _ h2 _ => by omega) h3
  have ef : findS (nI K, al, encW vn W, go, tn, lo) = _ := e2
  have hel : itr (elS (alnM (redW W))) nb 0 (K, tn, W) = elM nb (alnM (redW W)) (K, tn, W) := rfl
  rw [hel] at k1 k2 k3 k4 k5
  refine ⟨?_, ⟨?_, ?_, ?_, rfl, ?_, rfl⟩, ⟨k1.1, k1.2, ?_⟩, k2, fun b hb h => k3 b (Nat.zero_le _) (by omega) h, fun B hc => ?_⟩
  · rw [ef]; exact Int32.zero_add _
  · show (findS (nI K, al, encW vn W, go, tn, lo)).1 = _
    rw [ef]; rfl
  · show alR vn _ (findS (nI K, al, encW vn W, go, tn, lo)).2.1
    rw [ef]; exact ha2
  · show (findS (nI K, al, encW vn W, go, tn, lo)).2.2.1 = _
    rw [ef]; rfl
  · show (findS (nI K, al, encW vn W, go, tn, lo)).2.2.2.1 = _
    rw [ef]; rfl
  · have : W.length ≤ 24 := hi.2.2
    have k5 : c + (elM nb (alnM (redW W)) (K, tn, W)).2.2.length ≤ W.length := k5
    show (elM nb (alnM (redW W)) (K, tn, W)).2.2.length ≤ 24
    omega
  · obtain ⟨G, T, O, c1, c2, c3, c4, c5⟩ := hc
    have c4 : T + O + W.length ≤ G := c4
    have k5 : c + (elM nb (alnM (redW W)) (K, tn, W)).2.2.length ≤ W.length := k5
    refine ⟨G, T + c, O, c1, ?_, c3, ?_, c5⟩
    · show (elM nb (alnM (redW W)) (K, tn, W)).2.1 = _
      rw [k4, show tn = nI T from c2, nI_add]
    · show T + c + O + (elM nb (alnM (redW W)) (K, tn, W)).2.2.length ≤ G
      omega
