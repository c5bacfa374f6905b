/-! elimination: the whole -/
def ELR (vn : Nat → Nat) (R : List Nat) (q : ES) : Prop := rIv R ∧ q.2 = nI R.length ∧ ∃ ld, ldO R ld ∧ (∀ b, b < 12 → q.1 b = nI (mk vn (ld b)) ∧ ld b < 4096) ∧ ∀ m, m < 4096 → itr (lS ld) 12 0 m = xr R m
theorem lS_0 : ∀ n i m, itr (lS (fun _ => 0)) n i m = m := by
  intro n
  induction n with
  | zero => intro i m; rfl
  | succ n ih =>
    intro i m
    rw [itr_s, ih]
    unfold lS
    rw [Nat.xor_zero, ite_self]
theorem ELR_0 (vn : Nat → Nat) : ELR vn [] ((fun _ => 0), 0) := by
  refine ⟨rIv_0, rfl, fun _ => 0, ⟨fun b _ => ⟨(by decide : (0 : Nat) < 4096), Or.inl rfl⟩, fun y hy => absurd hy List.not_mem_nil⟩, fun b _ => ⟨?_, (by decide : (0 : Nat) < 4096)⟩, fun m _ => lS_0 12 0 m⟩
  show (0 : Int32) = nI (mk vn 0)
  rw [mk_0]
  rfl
theorem low_tb {x u : Nat} (h : x < 4096) (h0 : x ≠ 0) (hu : low x = 2 ^ u) : x.testBit u = true ∧ (∀ j, j < u → x.testBit j = false) := by
  obtain ⟨a, _, ea, ta, za⟩ := low_sp h h0
  have e : a = u := by
    have h9 : (2 ^ a).testBit u = (2 ^ u).testBit u := by rw [← ea, hu]
    rw [tb_pow, tb_pow, decide_eq_true rfl] at h9
    exact of_decide_eq_true h9
  subst e
  exact ⟨ta, za⟩
theorem lowN_sp2 : ∀ u, u < 12 → swar (nI (2 ^ u - 1)) = nI u := by decide +kernel
theorem lowN_mk {vn : Nat → Nat} (hv : vOK vn) {x u : Nat} (h : x < 4096) (h0 : x ≠ 0) (hu12 : u < 12) (hu : low x = 2 ^ u) : lowN (nI (mk vn x)) = u := by
  have hlt := mk_lt hv h
  have hne : mk vn x ≠ 0 := fun e => by
    have := mk_mod (vn := vn) h
    rw [e] at this
    exact h0 this.symm
  unfold lowN lowI
  have e1 : (nI (mk vn x) &&& -nI (mk vn x)) = nI (2 ^ u) := by
    rw [nI_neg (by omega), nI_and]
    congr 1
    have e2 : mk vn x = x + 4096 * vl vn x := by
      have h1 := Nat.div_add_mod (mk vn x) (2 ^ 12)
      rw [mk_mod h, mk_div h] at h1
      omega
    have e3 : 2 ^ 32 - mk vn x = (4096 - x) + 4096 * (2 ^ 20 - 1 - vl vn x) := by
      have : vl vn x < 65536 := vlN_lt hv x 12
      omega
    rw [e3]
    conv => lhs; lhs; rw [e2]
    have hvl : vl vn x < 2 ^ 20 := by have : vl vn x < 65536 := vlN_lt hv x 12; omega
    rw [and_split _ _ _ _ h (by omega), and_comp _ hvl]
    show low x + 0 = 2 ^ u
    rw [hu]
    rfl
  rw [e1, show (1 : Int32) = nI 1 from rfl, pk_sub (Nat.two_pow_pos u), lowN_sp2 u hu12]
  exact nI_clamp (by omega)
theorem clrA_mk {vn : Nat → Nat} (hv : vOK vn) {le : Nat → Int32} {ld : Nat → Nat} (hl : ∀ b, b < 12 → le b = nI (mk vn (ld b)) ∧ ld b < 4096) {x u : Nat} (hu : low x = 2 ^ u) (hu12 : u < 12) {b : Nat} (hb : b < 12) : clrA (nI (mk vn x)) u le 12 b = nI (mk vn (clr x (ld b))) := by
  obtain ⟨h1, h2⟩ := hl b hb
  unfold clrA
  rw [if_pos hb, h1, hld_mk hv h2 hu12]
  unfold clr
  rw [hu]
  cases q : (ld b).testBit u
  · rw [if_pos (by decide), if_pos (and_pow.mpr q)]
  · rw [if_pos rfl, if_neg (by decide), if_neg (fun e => by rw [and_pow.mp e] at q; exact absurd q (by decide)), nI_xor, mk_xor]
theorem ELR_s {vn : Nat → Nat} (hv : vOK vn) {R : List Nat} {q : ES} (h : ELR vn R q) {m : Nat} (hm : m < 4096) : ELR vn (redS R m) (addS (nI (mk vn m)) q) := by
  obtain ⟨le, ro⟩ := q
  obtain ⟨hR, hro, ld, hd, hl, hlx⟩ := h
  have hl : ∀ b, b < 12 → le b = nI (mk vn (ld b)) ∧ ld b < 4096 := hl
  have hlo : leftOf le (nI (mk vn m)) = nI (mk vn (xr R m)) := by rw [leftOf_ld hv hl hm, hlx m hm]
  obtain ⟨hx, _⟩ := xr_sp hR hm
  have hno : ∀ y ∈ R, xr R m &&& low y = 0 := fun y hy => xr_mem hR hm hy
  have hiv := redS_iv hR hm
  have hlen : xr R m ≠ 0 → (redS R m).length = R.length + 1 := redS_len
  have hredn : xr R m ≠ 0 → redS R m = R.map (clr (xr R m)) ++ [xr R m] := fun h => by unfold redS; rw [if_neg h]
  have hred0 : xr R m = 0 → redS R m = R := fun h => by unfold redS; rw [if_pos h]
  unfold addS
  rw [show leftOf (le, ro).1 (nI (mk vn m)) = nI (mk vn (xr R m)) from hlo, mkI_low hv hx]
  generalize xr R m = x at hx hno hlen hredn hred0
  by_cases h0 : x = 0
  · rw [hred0 h0, if_pos (by rw [h0]; rfl)]
    exact ⟨hR, hro, ld, hd, hl, hlx⟩
  · have hnz : ¬ nI x = 0 := fun z => h0 ((nI_e0 (by omega)).mp z)
    rw [if_neg hnz]
    obtain ⟨u, hu12, hu, tu, zu⟩ := low_sp hx h0
    rw [lowN_mk hv hx h0 hu12 hu]
    refine ⟨hiv, ?_, fun b => if b = u then x else clr x (ld b), ⟨fun b hb => ?_, fun y hy => ?_⟩, fun b hb => ?_, fun m' hm' => ?_⟩
    · show ro + 1 = _
      rw [hlen h0, show ro = nI R.length from hro, nI_1]
    · show (if b = u then x else clr x (ld b)) < 4096 ∧ ((if b = u then x else clr x (ld b)) = 0 ∨ ((if b = u then x else clr x (ld b)) ∈ redS R m ∧ low (if b = u then x else clr x (ld b)) = 2 ^ b))
      rw [hredn h0]
      by_cases e : b = u
      · rw [if_pos e]
        exact ⟨hx, Or.inr ⟨List.mem_append_right _ (List.mem_singleton.mpr rfl), by rw [e]; exact hu⟩⟩
      · rw [if_neg e]
        rcases (hd.1 b hb).2 with q | ⟨q1, q2⟩
        · have : clr x (ld b) = 0 := by rw [q]; unfold clr; rw [Nat.zero_and, if_pos rfl]
          rw [this]
          exact ⟨by decide, Or.inl rfl⟩
        · obtain ⟨hy1, hy2⟩ := rIv_mem hR q1
          obtain ⟨ta, za⟩ := low_tb hy1 hy2 q2
          have hxa := hno _ q1
          rw [q2, and_pow] at hxa
          obtain ⟨c1, c2, _⟩ := clr_sp hx hy1 q2 ta za hu tu zu hxa
          exact ⟨c1, Or.inr ⟨List.mem_append_left _ (List.mem_map.mpr ⟨_, q1, rfl⟩), c2⟩⟩
    · rw [hredn h0] at hy
      rcases List.mem_append.mp hy with hy | hy
      · obtain ⟨w, hw, rfl⟩ := List.mem_map.mp hy
        obtain ⟨b, hb, e1, e2⟩ := hd.2 w hw
        obtain ⟨hy1, hy2⟩ := rIv_mem hR hw
        obtain ⟨ta, za⟩ := low_tb hy1 hy2 e1
        have hxa := hno _ hw
        rw [e1, and_pow] at hxa
        obtain ⟨_, c2, _⟩ := clr_sp hx hy1 e1 ta za hu tu zu hxa
        have hbu : b ≠ u := fun z => by rw [z, tu] at hxa; exact absurd hxa (by decide)
        exact ⟨b, hb, c2, by show (if b = u then x else clr x (ld b)) = clr x w; rw [if_neg hbu, e2]⟩
      · rw [List.mem_singleton.mp hy]
        exact ⟨u, hu12, hu, if_pos rfl⟩
    · show upd (clrA (nI (mk vn x)) u le 12) u (nI (mk vn x)) b = nI (mk vn (if b = u then x else clr x (ld b))) ∧ (if b = u then x else clr x (ld b)) < 4096
      by_cases e : b = u
      · rw [if_pos e, e, pk_us]
        exact ⟨rfl, hx⟩
      · rw [if_neg e, pk_un e, clrA_mk hv hl hu hu12 hb]
        refine ⟨rfl, ?_⟩
        unfold clr
        split
        · exact (hl b hb).2
        · exact xor_lt (hl b hb).2 hx
    · rw [hredn h0, xr_add hR hx hu tu zu hno m', ← hlx m' hm']
      exact ld_add hR hd hx hu12 hu tu zu hno 12 0 m' m' rfl (Or.inl rfl) (fun h => absurd h (Nat.not_lt_zero u))
theorem ELR_fold {vn : Nat → Nat} (hv : vOK vn) : ∀ (W R : List Nat) (q : ES), ELR vn R q → (∀ w ∈ W, w < 4096) → ELR vn (W.foldl redS R) ((encW vn W).foldl (fun q x => addS x q) q) := by
  intro W
  induction W with
  | nil => intro R q h _; exact h
  | cons w W ih =>
    intro R q h hW
    show ELR vn (W.foldl redS (redS R w)) ((encW vn W).foldl (fun q x => addS x q) (addS (nI (mk vn w)) q))
    exact ih _ _ (ELR_s hv h (hW w List.mem_cons_self)) (fun x hx => hW x (List.mem_cons_of_mem _ hx))
theorem look_mk {vn : Nat → Nat} (hv : vOK vn) {W : List Nat} (hW : ∀ w ∈ W, w < 4096) : ELR vn (redW W) (lookS (encW vn W)) := ELR_fold hv W [] _ (ELR_0 vn) hW
/-- blocks that some row tells alone -/
theorem aln_mem : ∀ (L : List Nat) (a b : Nat), (∀ y ∈ L, y < 4096) → b < 12 → ((L.foldl alS a).testBit b = true ↔ a.testBit b = true ∨ 2 ^ b ∈ L) := by
  intro L
  induction L with
  | nil => intro a b _ _; simp
  | cons y L ih =>
    intro a b hL hb
    rw [List.foldl_cons, ih _ b (fun y hy => hL y (List.mem_cons_of_mem _ hy)) hb]
    have hy := hL y List.mem_cons_self
    unfold alS
    by_cases h1 : pc y = 1
    · rw [if_pos h1, Nat.testBit_or]
      obtain ⟨c, hc, rfl⟩ := pc_1 hy h1
      rw [tb_pow]
      constructor
      · rintro (h | h)
        · cases ha : a.testBit b
          · rw [ha, Bool.false_or] at h
            rw [of_decide_eq_true h]
            exact Or.inr List.mem_cons_self
          · exact Or.inl rfl
        · exact Or.inr (List.mem_cons_of_mem _ h)
      · rintro (h | h)
        · left; rw [h]; rfl
        · rcases List.mem_cons.mp h with h | h
          · left
            have h9 : (2 ^ b).testBit b = (2 ^ c).testBit b := by rw [h]
            rw [tb_pow, tb_pow, decide_eq_true rfl] at h9
            rw [← h9, Bool.or_true]
          · exact Or.inr h
    · rw [if_neg h1]
      constructor
      · rintro (h | h)
        · exact Or.inl h
        · exact Or.inr (List.mem_cons_of_mem _ h)
      · rintro (h | h)
        · exact Or.inl h
        · rcases List.mem_cons.mp h with h | h
          · exact absurd (by rw [← h]; exact pc_pow hb) h1
          · exact Or.inr h
theorem low_pow {b : Nat} (h : b < 12) : low (2 ^ b) = 2 ^ b := by
  have : ∀ b, b < 12 → low (2 ^ b) = 2 ^ b := by decide +kernel
  exact this b h
theorem tells_mk {vn : Nat → Nat} (hv : vOK vn) {W : List Nat} (hW : ∀ w ∈ W, w < 4096) {b : Nat} (hb : b < 12) :
    tellsI ((lookS (encW vn W)).1 b) b = (if (alnM (redW W)).testBit b = true then 1 else 0) ∧ ((alnM (redW W)).testBit b = true → (lookS (encW vn W)).1 b = nI (mk vn (2 ^ b))) := by
  obtain ⟨hR, _, ld, hd, hl, _⟩ := look_mk hv hW
  obtain ⟨h1, h2⟩ := hl b hb
  have key : (alnM (redW W)).testBit b = true ↔ ld b = 2 ^ b := by
    unfold alnM
    rw [aln_mem _ 0 b (fun y hy => (rIv_mem hR hy).1) hb]
    constructor
    · rintro (h | h)
      · rw [Nat.zero_testBit] at h; exact absurd h (by decide)
      · obtain ⟨c, hc, e1, e2⟩ := hd.2 _ h
        rw [low_pow hb] at e1
        have h9 : (2 ^ b).testBit c = (2 ^ c).testBit c := by rw [e1]
        rw [tb_pow, tb_pow, decide_eq_true rfl] at h9
        rw [← of_decide_eq_true h9] at e2
        exact e2
    · intro h
      right
      rcases (hd.1 b hb).2 with q | ⟨q, _⟩
      · rw [q] at h
        have := Nat.two_pow_pos b
        omega
      · rw [h] at q; exact q
  constructor
  · unfold tellsI
    rw [h1, mkI_low hv h2, shl1 (by omega)]
    by_cases h : ld b = 2 ^ b
    · rw [if_pos (by rw [h]), if_pos (key.mpr h)]
    · rw [if_neg (fun z => h ((nI_eq (by omega) (by have := pow12 hb; omega)).mp z)), if_neg (fun z => h (key.mp z))]
  · intro h
    rw [h1, key.mp h]
theorem rank_mk {vn : Nat → Nat} (hv : vOK vn) {nb : Nat} (hn : nb ≤ 12) {q : RS} {p : MQ5} (hq : RQ vn q p) (hi : MI nb p) : rankQ q = rnkM p := by
  obtain ⟨e1, _, e3, _⟩ := hq
  have hW : ∀ w ∈ p.2.2.2.2, w < 4096 := fun w hw => (MI_wOK hn hi w hw).1
  unfold rankQ rnkM
  rw [e1, e3, (look_mk hv hW).2.1, swar_pc (Nat.lt_of_lt_of_le hi.1 (pow_nb hn)), nI_add]
/-- one block of an elimination -/
theorem find_mk {vn : Nat → Nat} (hv : vOK vn) {W0 : List Nat} (hW0 : ∀ w ∈ W0, w < 4096) {b : Nat} (hb : b < 12) {K : Nat} {al : Nat → Int32} {W : List Nat} {tn fd : Int32} (ha : alR vn K al) (hW : wOK K W) (hK : K < 4096) :
    ∃ al', findB (lookS (encW vn W0)).1 b (nI K, al, encW vn W, tn, fd) = (nI (elS (alnM (redW W0)) b (K, tn, W)).1, al', encW vn (elS (alnM (redW W0)) b (K, tn, W)).2.2, (elS (alnM (redW W0)) b (K, tn, W)).2.1, fd + (nI (pc (elS (alnM (redW W0)) b (K, tn, W)).1) - nI (pc K))) ∧ alR vn (elS (alnM (redW W0)) b (K, tn, W)).1 al' := by
  obtain ⟨t1, t2⟩ := tells_mk hv hW0 hb
  have same : (nI K, al, encW vn W, tn, fd) = (nI K, al, encW vn W, tn, fd + (nI (pc K) - nI (pc K))) := by rw [nI_zero_sub, Int32.add_zero]
  unfold elS
  cases ht : (alnM (redW W0)).testBit b
  · rw [if_neg (by decide)]
    rw [ht, if_neg (by decide)] at t1
    exact ⟨al, by rw [findB_n (e := (lookS (encW vn W0)).1) (b := b) (q := (nI K, al, encW vn W, tn, fd)) t1]; exact same, ha⟩
  · rw [if_pos rfl]
    rw [ht, if_pos rfl] at t1
    have t1' : ¬ tellsI ((lookS (encW vn W0)).1 b) b = 0 := by rw [t1]; decide
    cases hk : K.testBit b
    · rw [if_neg (by decide)]
      have hk0 : hldI (nI K) (nI b) = 0 := by rw [hld_nI (by omega) (by omega), hk]; rfl
      rw [findB_y (e := (lookS (encW vn W0)).1) (b := b) (q := (nI K, al, encW vn W, tn, fd)) t1' hk0]
      have hd : 2 ^ b &&& K = 0 := by rw [Nat.and_comm]; exact and_pow.mpr hk
      obtain ⟨al2, e2, ha2⟩ := peel_mk hv (encW vn W).length (2 ^ b) K al W tn 0 (pow12 hb) (by rw [pc_pow hb]; decide) hd ha hW hK
      rw [if_neg (by have := Nat.two_pow_pos b; omega)] at e2 ha2
      show ∃ al', ((peelS (encW vn W).length ((lookS (encW vn W0)).1 b) (nI K, al, encW vn W, tn, 0)).1, (peelS (encW vn W).length ((lookS (encW vn W0)).1 b) (nI K, al, encW vn W, tn, 0)).2.1, (peelS (encW vn W).length ((lookS (encW vn W0)).1 b) (nI K, al, encW vn W, tn, 0)).2.2.1, (peelS (encW vn W).length ((lookS (encW vn W0)).1 b) (nI K, al, encW vn W, tn, 0)).2.2.2.1, fd + (peelS (encW vn W).length ((lookS (encW vn W0)).1 b) (nI K, al, encW vn W, tn, 0)).2.2.2.2) = _ ∧ _
      rw [t2 ht, e2, knW_len]
      rw [encW_len] at ha2 ⊢
      refine ⟨al2, ?_, ha2⟩
      show (_, _, _, _, fd + (0 + _)) = _
      rw [Int32.zero_add]
    · rw [if_pos rfl]
      have hk0 : ¬ hldI (nI K) (nI b) = 0 := by rw [hld_nI (by omega) (by omega), hk]; decide
      exact ⟨al, by rw [findB_k (e := (lookS (encW vn W0)).1) (b := b) (q := (nI K, al, encW vn W, tn, fd)) hk0]; exact same, ha⟩
/-- what an elimination keeps -/
theorem elS_inv {nb fo b : Nat} (hbn : b < nb) {q : Nat × Int32 × List Nat} (hn : nb ≤ 12) (hK : q.1 < 2 ^ nb) (hW : ∀ w ∈ q.2.2, w < 2 ^ nb ∧ w &&& q.1 = 0 ∧ 2 ≤ pc w) :
    (elS fo b q).1 < 2 ^ nb ∧ (∀ w ∈ (elS fo b q).2.2, w < 2 ^ nb ∧ w &&& (elS fo b q).1 = 0 ∧ 2 ≤ pc w) ∧ subB q.1 (elS fo b q).1 ∧ (fo.testBit b = true → (elS fo b q).1.testBit b = true) ∧ ∃ c, (elS fo b q).2.1 = q.2.1 + nI c ∧ c + (elS fo b q).2.2.length ≤ q.2.2.length := by
  have h0 : ∃ c, q.2.1 = q.2.1 + nI c ∧ c + q.2.2.length ≤ q.2.2.length := ⟨0, (Int32.add_zero _).symm, Nat.le_of_eq (Nat.zero_add _)⟩
  unfold elS
  cases ht : fo.testBit b
  · rw [if_neg (by decide)]
    exact ⟨hK, hW, fun _ h => h, fun h => absurd h (by decide), h0⟩
  · rw [if_pos rfl]
    by_cases hk : q.1.testBit b = true
    · rw [if_pos hk]
      exact ⟨hK, hW, fun _ h => h, fun _ => hk, h0⟩
    · rw [if_neg hk]
      have hwok : wOK q.1 q.2.2 := fun w hw => ⟨Nat.lt_of_lt_of_le (hW w hw).1 (pow_nb hn), (hW w hw).2.1⟩
      have hp : 2 ^ b < 2 ^ nb := Nat.pow_lt_pow_right (a := 2) (by decide) hbn
      obtain ⟨i1, i2, i3, i4, i5, c, i6, i7⟩ := plM_inv (nb := nb) (knW (2 ^ b) q.2.2).length (q.1 ||| 2 ^ b) q.2.1 (knW (2 ^ b) q.2.2) (knW_wOK hwok) (Nat.or_lt_two_pow hK hp) (knW_ltb (fun w hw => (hW w hw).1))
      refine ⟨i1, fun w hw => ⟨i3 w hw, (i2 w hw).2, i5 (Nat.le_refl _) w hw⟩, subB_tr subB_or i4, fun _ => i4 b (by rw [Nat.testBit_or, tb_pow, decide_eq_true rfl, Bool.or_true]), c, i6, Nat.le_trans i7 (Nat.le_of_eq (knW_len _ _))⟩
