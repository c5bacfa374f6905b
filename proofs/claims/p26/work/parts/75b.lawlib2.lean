/-! what the law asks of a mix that is got -/
/-- what a mix brings the others that listen -/
def othN (m u : Nat) (rc : Nat → MR) : Nat → Nat
  | 0 => 0
  | j + 1 => othN m u rc j + (if j ≠ u ∧ (rc j).1 = true then gd m (rc j) else 0)
theorem othN_u {m u j : Nat} {rc : Nat → MR} (h : j = u) : othN m u rc j + 0 = othN m u rc (j + 1) := by
  rw [othN, if_neg (fun z => z.1 h)]
theorem othN_l {m u j : Nat} {rc : Nat → MR} (h : ¬ bI (rc j).1 = nI 1) : othN m u rc j + 0 = othN m u rc (j + 1) := by
  rw [othN, if_neg]
  rintro ⟨_, z⟩
  rw [z] at h
  exact h rfl
theorem othN_g {m u j : Nat} {rc : Nat → MR} (h : ¬ j = u) (h2 : bI (rc j).1 = nI 1) : othN m u rc j + gd m (rc j) = othN m u rc (j + 1) := by
  rw [othN, if_pos]
  refine ⟨h, ?_⟩
  cases q : (rc j).1
  · rw [q] at h2; exact absurd h2 (by decide)
  · rfl
theorem othN_le (m u : Nat) (rc : Nat → MR) : ∀ j, othN m u rc j ≤ 12 * j := by
  intro j
  induction j with
  | zero => exact Nat.le_refl _
  | succ j ih =>
    rw [othN]
    have := gd_le m (rc j)
    split <;> omega
theorem sum_oth {nb m : Nat} (hn : nb ≤ 12) (hm : m < 2 ^ nb) {rc rc1 : Nat → MR} {u : Nat} (hu : u < 3) (hMI : ∀ i, i < 3 → MI nb (rc i).2) (h1 : rc1 u = (true, (rc u).2)) (h2 : ∀ j, j ≠ u → rc1 j = rc j) : sumM m rc1 3 = nI (othN m u rc 3 + gd m (rc u)) := by
  have key : ∀ n, n ≤ 3 → sumM m rc1 n = nI (othN m u rc n + (if u < n then gd m (rc u) else 0)) := by
    intro n
    induction n with
    | zero => intro _; rfl
    | succ n ih =>
      intro hn3
      rw [sumM, ih (by omega), othN]
      by_cases e : n = u
      · subst e
        have hg : gtv m (true, (rc n).2) = nI (gd m (rc n)) := (gtv_nI hn hm (hMI n (by omega))).1
        rw [h1, if_pos rfl, hg, nI_add]
        refine congrArg nI ?_
        rw [if_neg (Nat.lt_irrefl n), if_neg (fun z => z.1 rfl), if_pos (Nat.lt_succ_self n)]
      · rw [h2 n e]
        have e2 : (if u < n + 1 then gd m (rc u) else 0) = (if u < n then gd m (rc u) else 0) := by
          by_cases c : u < n
          · rw [if_pos c, if_pos (by omega)]
          · rw [if_neg c, if_neg (by omega)]
        rw [e2]
        cases q : (rc n).1
        · have e3 : (if n ≠ u ∧ false = true then gd m (rc n) else 0) = 0 := if_neg (fun z => absurd z.2 (by decide))
          rw [e3, if_neg (show ¬ false = true by decide), Nat.add_zero]
          exact Int32.add_zero _
        · have e3 : (if n ≠ u ∧ true = true then gd m (rc n) else 0) = gd m (rc n) := if_pos ⟨e, rfl⟩
          rw [e3, if_pos (show true = true from rfl), (gtv_nI hn hm (hMI n (by omega))).1, nI_add]
          exact congrArg nI (by omega)
  have := key 3 (Nat.le_refl 3)
  rw [if_pos hu] at this
  exact this
theorem hp_zero {nb k : Nat} (h0 : 0 < nb) (hn : nb ≤ 12) {q : MR} (hi : MI nb q.2) (h : hpM nb q k = false) : gd (mskM nb k) q = 0 := by
  rw [hpM_gd h0 hn hi] at h
  have := of_decide_eq_false h
  omega
theorem hp_pos {nb k : Nat} (h0 : 0 < nb) (hn : nb ≤ 12) {q : MR} (hi : MI nb q.2) (h : hpM nb q k = true) : 0 < gd (mskM nb k) q := by
  rw [hpM_gd h0 hn hi] at h
  exact of_decide_eq_true h
/-! and of mixes that are needed -/
theorem elm_pc {nb : Nat} (hn : nb ≤ 12) {p : MQ5} (hi : MI nb p) : pc (elmQ nb p).1 = pc p.1 + pc (alnM (redW p.2.2.2.2)) := by
  obtain ⟨e1, e2⟩ := elim_all v0OK hn hi (qOf_ok p)
  rw [e1, pc_disj e2]
theorem dn_zero {nb fr : Nat} {el : Bool} {q : MQ5} : bI (decide (ndM nb fr el 100 0 q = 0)) = bI (decide (bI (isDM nb q) = nI 1)) := by
  rw [bI_one]
  congr 1
  cases h : isDM nb q
  · exact decide_eq_false (fun z => by rw [nd_zero.mp z] at h; exact absurd h (by decide))
  · exact decide_eq_true (nd_zero.mpr h)
theorem dn_zero2 {nb fr : Nat} {el el2 : Bool} {q : MQ5} : bI (decide (ndM nb fr el 100 0 q = 0)) = bI (decide (ndM nb fr el2 100 0 q = 0)) := dn_zero.trans dn_zero.symm
theorem need_ok {nb fr : Nat} (h0 : 0 < nb) (hn : nb ≤ 12) {p : MQ5} (hi : MI nb p) (hl : p.2.2.2.2.length ≤ 4) (h1 : ¬ ndM nb fr false 100 0 p < 0) (h2 : ¬ nI 20 < ndM nb fr false 100 0 p) : ¬ ndM nb fr false 100 0 p < ndM nb fr true 100 0 p := by
  rcases nd_rng (nb := nb) (fr := fr) (el := false) 100 0 p rfl with e | ⟨v, _, hv, e⟩
  · rw [e] at h1; exact absurd (by decide) h1
  · have hv20 : v ≤ 20 := by
      rw [e] at h2
      refine Nat.le_of_not_lt fun z => h2 (nI_lt z (by omega))
    obtain ⟨b, hb, eb⟩ := nd_less h0 hn hv20 100 0 p p rfl hi hi (fun _ h => h) (fun h => h) (by omega) e
    rw [e, eb]
    exact fun z => absurd ((nI_ltI (a := v) (b := b) (by omega) (by omega)).mp z) (by omega)
theorem nd_hit {nb fr : Nat} {el : Bool} {n tk : Nat} {q : MQ5} (hk : tk + n = 100) (h : ndM nb fr el n tk q = nI tk) : isDM nb q = true := by
  refine Classical.byContradiction fun hd => ?_
  cases n with
  | zero =>
    have h : (if isDM nb q = true then nI 100 else -1) = nI tk := h
    rw [if_neg hd] at h
    exact absurd h (m1_ne (by omega))
  | succ n =>
    rw [nd_next hd] at h
    rcases nd_rng (nb := nb) (fr := fr) (el := el) n (tk + 1) (stpM nb fr el tk q) (by omega) with e | ⟨v, h1, h2, e⟩
    · rw [e] at h; exact absurd h (m1_ne (by omega))
    · rw [e] at h
      have := (nI_eq (a := v) (b := tk) (by omega) (by omega)).mp h
      omega
theorem nd_miss {nb fr : Nat} {el : Bool} {n tk f : Nat} {q : MQ5} (hk : tk + n = 100) (hf : f ≤ 100) (hlt : tk < f) (h : ndM nb fr el n tk q = nI f) : isDM nb q = false := by
  cases hd : isDM nb q
  · rfl
  · rw [nd_done hk hd] at h
    have := (nI_eq (a := tk) (b := f) (by omega) (by omega)).mp h
    omega
theorem nd_go {nb fr : Nat} {n tk f : Nat} {q : MQ5} (hk : tk + (n + 1) = 100) (hf : f ≤ 100) (hlt : tk < f) (h : ndM nb fr false (n + 1) tk q = nI f) : ndM nb fr false n (tk + 1) (getM (mskM nb (fr + tk)) q) = nI f := by
  have hd := nd_miss hk hf hlt h
  rw [nd_next (by rw [hd]; decide), stp_f] at h
  exact h
theorem kw_zero {K : Nat} {W : List Nat} (hK : K < 4096) (h : pc K + W.length = 0) : K = 0 ∧ W = [] :=
  ⟨pc_0 hK (by omega), List.eq_nil_of_length_eq_zero (by omega)⟩
/-- the other object: its first receiver listens, knows nothing and nothing waits -/
def othP (nb : Nat) (z : SS) : Prop := ∃ y : MS, RZ 0 z y ∧ y.1 = nb ∧ (y.2.2.2 0).1 = true ∧ (y.2.2.2 0).2.1 = 0 ∧ (y.2.2.2 0).2.2.2.2.2 = []
theorem othP_new {nb : Nat} (h2 : 2 ≤ nb) (h12 : nb ≤ 12) : othP nb (recvZ (sizeZ ss0 nb) 0 (true, ((sizeZ ss0 nb).2.2.2 0).2)) := by
  have h1 := listen_mk (size_mk new_mk h2 h12) (u := 0) (by decide) true
  exact ⟨_, h1, rfl, rfl, rfl, rfl⟩
theorem othP_write {nb : Nat} {z : SS} (h : othP nb z) {b v : Nat} (hv : v < 65536) : othP nb (writeZ z b (nI v)) := by
  obtain ⟨y, h1, h2, h3, h4, h5⟩ := h
  exact ⟨_, write_mk h1 (b := b) hv, h2, h3, rfl, rfl⟩
theorem othP_nb {nb : Nat} {z : SS} (h : othP nb z) : z.1 = nb := by
  obtain ⟨y, h1, h2, _⟩ := h
  rw [← h2]
  exact (rz_nb h1).1
/-- the other object behind j mixes: f of them are needed -/
def othQ (nb fr j f : Nat) (z : SS) : Prop := ∃ y : MS, RZ j z y ∧ y.1 = nb ∧ (y.2.2.2 0).1 = true ∧ ndM nb fr false (100 - j) j (y.2.2.2 0).2 = nI f
theorem othQ_next {nb fr j f : Nat} {z : SS} (h : othQ nb fr j f z) (hf : f ≤ 100) (hj : j < f) : othQ nb fr (j + 1) f (sendZ z (fr + j)) := by
  obtain ⟨y, h1, h2, h3, h4⟩ := h
  refine ⟨_, (send_mk h1 (fr + j)).1, h2, ?_, ?_⟩
  · show (mapQ (gotM (mskM y.1 (fr + j))) y.2.2.2 3 0).1 = true
    unfold mapQ
    rw [if_pos (by decide), gotM_y h3]
  · show ndM nb fr false (100 - (j + 1)) (j + 1) (mapQ (gotM (mskM y.1 (fr + j))) y.2.2.2 3 0).2 = nI f
    unfold mapQ
    rw [if_pos (by decide), gotM_y h3, h2]
    have e : 100 - j = (100 - (j + 1)) + 1 := by omega
    rw [e] at h4
    exact nd_go (by omega) hf hj h4
/-! a law's method that makes an object of its own -/
theorem memIn {big ws : List Cond} (ps : List Nat) (hp : ws = ps.filterMap (fun i => big[i]?)) : ∀ w ∈ ws, w ∈ big := by
  intro w hw
  rw [hp] at hw
  obtain ⟨i, -, hi⟩ := List.mem_filterMap.mp hw
  exact List.mem_of_getElem? hi
def wNd (E : wE) (g : Nat → Nat) (sz : Nat) (P : Heap → Prop) (U : State) : Prop := wSx E 94 g (fun q => wF 94 g q ∨ sz ≤ q) P U ∧ U.heap.size = sz ∧ va_AO RX3 U ∧ va_AO RX4 U
theorem wNd.blind {E : wE} {g : Nat → Nat} {sz : Nat} {P : Heap → Prop} {av : List Value} : FrameBlind (va_Pc av (wNd E g sz P)) := fun a U fr mk q =>
  ⟨q.1, ((wSx.blind (E := E) (n := 94) (g := g) (A := fun q => wF 94 g q ∨ sz ≤ q) (P := P) (av := av)) a U fr mk ⟨q.1, q.2.1⟩).2, q.2.2.1, va_AO.moved (u := U) (U := U.calling fr mk a) (Vm.Alike.refl U.vm) q.2.2.2.1, va_AO.moved (u := U) (U := U.calling fr mk a) (Vm.Alike.refl U.vm) q.2.2.2.2⟩
theorem wNd.go {E : wE} {g : Nat → Nat} {A0 : Nat → Prop} {P : Heap → Prop} {s U : State} {H : Heap} {locs : List Loc} {av : List Value} (hP : P H) (hK : wK E s) (hI : wI 94 g) (hxe : xE A0 s s.heap) (hS : va_S A0 s.heap H locs) (hA : ∀ q, (wF 94 g q ∨ H.size ≤ q) → A0 q) (h3 : va_AO RX3 s) (h4 : va_AO RX4 s) (hU : U.heap = H) (hW : s.WarmedH U.vm) : va_Pc av (wNd E g H.size P) av.toArray U :=
  ⟨rfl, (wSx.go (av := av) hP hK hI hxe hS hA hU hW).2, by rw [hU], h3.moved hW.alike, h4.moved hW.alike⟩
theorem hiS_lt {E : wE} {g : Nat → Nat} {zs : Nat → SS} {H : Heap} (h : hiS E g zs H) : ∀ j, 2 ≤ j → j < 74 → g j < H.size := by
  intro j h2 hj
  have h4 := stT_lt (h ((j - 2) / 12) (by omega)) ((j - 2) % 12) (by omega)
  have e : 2 + 12 * ((j - 2) / 12) + (j - 2) % 12 = j := by omega
  unfold hg at h4
  rw [e] at h4
  exact h4
theorem MB.lt {E : wE} {g : Nat → Nat} {ln : Nat} {bf : Nat → Int32} {z : SS} {ke : Nat} {hs : Nat → SS} {H : Heap} (h : MB E g ln bf z ke hs H) : ∀ k, k < 94 → g k < H.size := by
  obtain ⟨ol, zs, hr, hM, ⟨⟨pa, hPa⟩, ⟨el, hEl⟩, ⟨tli, tq, hTr⟩⟩, hN, hHi, hHs⟩ := h
  intro k hk
  by_cases h2 : k < 2
  · exact hM.lt h2
  by_cases h3 : k < 3
  · have := hPa.lt (k := 0) (by decide)
    have e : off g 2 0 = g k := by unfold off; congr 1; omega
    rw [← e]; exact this
  by_cases h5 : k < 5
  · have := hEl.lt (k := k - 3) (by omega)
    have e : off g 3 (k - 3) = g k := by unfold off; congr 1; omega
    rw [← e]; exact this
  by_cases h8 : k < 8
  · have := rcT_lt hTr (k - 5) (by omega)
    have e : off g 5 (k - 5) = g k := by unfold off; congr 1; omega
    rw [← e]; exact this
  by_cases h20 : k < 20
  · have := stT_lt hN (k - 8) (by omega)
    have e : off g 8 (k - 8) = g k := by unfold off; congr 1; omega
    rw [← e]; exact this
  by_cases h22 : k < 22
  · have := hHi.lt (k := k - 20) (by omega)
    have e : off g 20 (k - 20) = g k := by unfold off; congr 1; omega
    rw [← e]; exact this
  · have := hiS_lt hHs (k - 20) (by omega) (by omega)
    have e : off g 20 (k - 20) = g k := by unfold off; congr 1; omega
    rw [← e]; exact this
