set_option maxHeartbeats 4000000 in
set_option maxRecDepth 100000 in
theorem c_X6_helping (l : Launch) (E : wE) (g : Nat → Nat) (th : Int32) (sv : Nat → Int32) (sm : Nat) (tx : Nat → Int32) (ln : Nat) (ai : Nat) (wr : Bool) (dg : Int64) (nb : Nat) (va : Nat → Int32) (se : Int32) (rc : Nat → MR) (u : Nat) (hu3 : u < 3) (fr : Nat) (hfr : fr < 10000) (hnb2 : 2 ≤ nb) (hnb : nb ≤ 12) : Met l yX6_helping wsX6_helping ({ frames := 5, cells := 0, slots := 0, locals := 118 }) (va_Pc [.ref ((g 0)), .int (nI u), .int (nI fr)] (wS E 6 g (moZ E g th sv sm tx ln ai wr dg nb va se rc))) (va_Qi (fun (r : Int32) (_ : Unit) => r = nhS (hpM nb (rc u)) (nhN fr) fr) (fun _ t => moZ E g th sv sm tx ln ai wr dg nb va se rc (t.heap)) (wF 6 g)) 0 0 (wF 6 g) := by
  refine Met.ofW (cc := cX6_helping) (maxL := 4) (ret := (some .int)) (by decide) rfl ?_
  intro p e s m args below meth c s₁ B hml hv
  obtain ⟨rfl, ⟨aa, ro, rv, hP, hrv⟩, hK, hI⟩ := hv
  have hx := B.exec
  have hb := B.bytes
  have hr := B.returns
  have hts := atoms_spec (ws := wsX6_helping) B.pre
  have hown : s.vm.findClass RX6 = some m.cls := findClass_of_methodNamed B.named
  have hlocks := B.notSynchronized
  have hS : va_S (wF 6 g) s.heap s.heap [] := va_S.rf
  have hA : ∀ k, k < 6 → (wF 6 g) (g k) := wF_in
  have hl := lv_entry ([.ref ((g 0)), .int (nI u), .int (nI fr)]) (n := 4) (Nat.le_of_ble_eq_true rfl)
  rw [lg_entry_eq]
  generalize (lg_sl ([.ref ((g 0)), .int (nI u), .int (nI fr)]) ++ List.replicate (4 - (lg_sl ([.ref ((g 0)), .int (nI u), .int (nI fr)])).length) Slot.unset).toArray = ls at hl ⊢
  have hl : lv_has ls 4 [(0, .ref ((g 0))), (1, .int (nI u)), (2, .int (nI fr))] := hl
  refine lv_iload_n hx hb dX6_helping_0 rfl (lv_at hl 2 rfl) ?_
  refine lv_istore_n (lv' := [(3, .int (nI fr)), (0, .ref ((g 0))), (1, .int (nI u)), (2, .int (nI fr))]) hx hb dX6_helping_1 rfl hl (by decide) rfl (fun ls hl => ?_)
  have hnn : nhN fr ≤ 100 ∧ fr + nhN fr ≤ 10000 ∧ (nhN fr = 100 ∨ fr + nhN fr = 10000) := by unfold nhN; split <;> omega
  have L2 : ∀ (k : Nat) (i : Nat) (aa2 ro2 : Nat → Int32) (rv2 : Nat → Nat → Int32) (H : Heap) (locs : List Loc) (ls : Array Slot), i + k = fr + nhN fr → nhS (hpM nb (rc u)) k i = nhS (hpM nb (rc u)) (nhN fr) fr → (∀ j, j < 3 → rvP (rc j) (rv2 j)) → wP E 6 g (moF E g th (mdE nb va se rv2) aa2 sv sm tx ln ro2 ai wr dg) H → va_S (wF 6 g) s.heap H locs → lv_has ls 4 [(3, .int (nI i)), (0, .ref ((g 0))), (1, .int (nI u)), (2, .int (nI fr))] → W p l e (headSpec wsX6_helping ({ frames := 5, cells := 0, slots := 0, locals := 118 })).room s m ([.ref ((g 0)), .int (nI u), .int (nI fr)] : List Value).toArray below meth c H locs 0 0 (MQ below (va_Qi (fun (r : Int32) (_ : Unit) => r = nhS (hpM nb (rc u)) (nhN fr) fr) (fun _ t => moZ E g th sv sm tx ln ai wr dg nb va se rc (t.heap)) (wF 6 g)) ([.ref ((g 0)), .int (nI u), .int (nI fr)] : List Value).toArray s 0 0 (wF 6 g)) (F0 m 2 ls []) := by
    intro k
    induction k with
    | zero =>
      intro i aa2 ro2 rv2 H locs ls hi hres hrv2 hP hS hl
      refine lv_iload_n hx hb dX6_helping_2 rfl (lv_at hl 0 rfl) ?_
      refine lv_sipush (v := 9999) hx hb dX6_helping_3 (by decide) ?_
      refine lv_icmp_gt (tgt := 35) hx hb dX6_helping_6 (by decide) (fun c_1 => ?_) (fun c_1 => ?_)
      · have n_1 : 9999 < i := (nI_ltI (a := 9999) (b := i) (by omega) (by omega)).mp c_1
        refine lv_iconst (v := (-1)) hx hb dX6_helping_35 (by decide) ?_
        exact W.iret (v := (-1)) hx hb hr (fun t ht hW => ⟨⟨_, (), rfl, (by show -1 = _; rw [← hres]; rfl), (by show moZ E g th sv sm tx ln ai wr dg nb va se rc (t.heap); rw [ht]; exact ⟨_, _, _, hP, hrv2⟩)⟩, hS.F ht⟩) hS.2.2 dX6_helping_36
      · have n_1 : ¬ (9999 < i) := fun z => c_1 ((nI_ltI (a := 9999) (b := i) (by omega) (by omega)).mpr z)
        refine lv_iload_n hx hb dX6_helping_9 rfl (lv_at hl 0 rfl) ?_
        refine lv_iload_n hx hb dX6_helping_10 rfl (lv_at hl 3 rfl) ?_
        refine lv_bipush (v := 100) hx hb dX6_helping_11 (by decide) ?_
        refine lv_iadd hx hb dX6_helping_13 ?_
        rw [show (nI fr) + 100 = nI (fr + 100) from nI_add fr 100]
        refine lv_icmp_ge (tgt := 35) hx hb dX6_helping_14 (by decide) (fun c_2 => ?_) (fun c_2 => ?_)
        · have n_2 : (fr + 100) ≤ i := (nI_leI (a := (fr + 100)) (b := i) (by omega) (by omega)).mp c_2
          refine lv_iconst (v := (-1)) hx hb dX6_helping_35 (by decide) ?_
          exact W.iret (v := (-1)) hx hb hr (fun t ht hW => ⟨⟨_, (), rfl, (by show -1 = _; rw [← hres]; rfl), (by show moZ E g th sv sm tx ln ai wr dg nb va se rc (t.heap); rw [ht]; exact ⟨_, _, _, hP, hrv2⟩)⟩, hS.F ht⟩) hS.2.2 dX6_helping_36
        · have n_2 : ¬ ((fr + 100) ≤ i) := fun z => c_2 ((nI_leI (a := (fr + 100)) (b := i) (by omega) (by omega)).mpr z)
          exfalso
          omega
    | succ k ihk =>
      intro i aa2 ro2 rv2 H locs ls hi hres hrv2 hP hS hl
      refine lv_iload_n hx hb dX6_helping_2 rfl (lv_at hl 0 rfl) ?_
      refine lv_sipush (v := 9999) hx hb dX6_helping_3 (by decide) ?_
      refine lv_icmp_gt (tgt := 35) hx hb dX6_helping_6 (by decide) (fun c_3 => ?_) (fun c_3 => ?_)
      · have n_3 : 9999 < i := (nI_ltI (a := 9999) (b := i) (by omega) (by omega)).mp c_3
        exfalso
        omega
      · have n_3 : ¬ (9999 < i) := fun z => c_3 ((nI_ltI (a := 9999) (b := i) (by omega) (by omega)).mpr z)
        refine lv_iload_n hx hb dX6_helping_9 rfl (lv_at hl 0 rfl) ?_
        refine lv_iload_n hx hb dX6_helping_10 rfl (lv_at hl 3 rfl) ?_
        refine lv_bipush (v := 100) hx hb dX6_helping_11 (by decide) ?_
        refine lv_iadd hx hb dX6_helping_13 ?_
        rw [show (nI fr) + 100 = nI (fr + 100) from nI_add fr 100]
        refine lv_icmp_ge (tgt := 35) hx hb dX6_helping_14 (by decide) (fun c_4 => ?_) (fun c_4 => ?_)
        · have n_4 : (fr + 100) ≤ i := (nI_leI (a := (fr + 100)) (b := i) (by omega) (by omega)).mp c_4
          exfalso
          omega
        · have n_4 : ¬ ((fr + 100) ≤ i) := fun z => c_4 ((nI_leI (a := (fr + 100)) (b := i) (by omega) (by omega)).mpr z)
          refine lv_aload_n hx hb dX6_helping_17 rfl (lv_at hl 1 rfl) ?_
          refine lv_iload_n hx hb dX6_helping_18 rfl (lv_at hl 2 rfl) ?_
          refine lv_iload_n hx hb dX6_helping_19 rfl (lv_at hl 0 rfl) ?_
          refine lv_iconst (v := 0) hx hb dX6_helping_20 (by decide) ?_
          refine va_calli (va_runV (As := [.int (nI u), .int (nI i), .int 0]) (rest := []) ⟨hx, hb, hml, hown, hts⟩ (c_X6_got l E g th sv sm tx ln ai wr dg nb va se rc u (by omega) i 0 (by omega) (by omega) hnb2 hnb) (cwV 3 hts gX6_helping_X6_got rfl rfl rfl (by decide +kernel) ⟨Nat.le_of_ble_eq_true rfl, Nat.le_of_ble_eq_true rfl⟩) ⟨wS.blind, (w_recv hK hP 0 (by decide) rfl (ci := 6) rfl), fun U hU hW => wS.go ⟨_, _, _, hP, hrv2⟩ hK hI hU hW⟩ rfl rfl hl.1 rfl (lv_room (Nat.le_of_ble_eq_true rfl)) dX6_helping_21 ⟨Nat.zero_le _, Nat.zero_le _⟩) hS (fun q _ h => h) (fun q h => h) (fun r_5 uu t H_5 locs_5 ht hvm hw hB hz1 hk1 hS => ?_)
          rw [ht] at hB
          obtain ⟨aa_5, ro_5, rv_5, hP, hrv_5⟩ := hB
          have hP : wP E 6 g (moF E g th (mdE nb va se rv_5) aa_5 sv sm tx ln ro_5 ai wr dg) H_5 := hP
          obtain rfl : r_5 = (gtv (mskM nb i) (rc u)) := hw
          refine lv_if_le (tgt := 29) hx hb dX6_helping_24 (by decide) (fun c_6 => ?_) (fun c_6 => ?_)
          · refine lv_iinc (v := (nI (i + 1))) (lv' := [(3, .int (nI (i + 1))), (0, .ref ((g 0))), (1, .int (nI u)), (2, .int (nI fr))]) hx hb dX6_helping_29 hl (k := 0) rfl (nI_1 _) (by decide) rfl (fun ls hl => ?_)
            refine lv_goto (tgt := 2) hx hb dX6_helping_32 (by decide) ?_
            have hpf : (hpM nb (rc u)) i = false := decide_eq_false (Int32.not_lt.mpr c_6)
            exact ihk (i + 1) aa_5 ro_5 rv_5 _ _ ls (by omega) (by rw [← hres, nhS, if_neg (by rw [hpf]; decide)]) hrv_5 hP hS (lv_sub hl [0, 1, 2, 3] rfl)
          · refine lv_iload_n hx hb dX6_helping_27 rfl (lv_at hl 0 rfl) ?_
            exact W.iret (v := (nI i)) hx hb hr (fun t ht hW => ⟨⟨_, (), rfl, (by show nI i = _; rw [← hres, nhS, if_pos (show hpM nb (rc u) i = true from decide_eq_true (Int32.not_le.mp c_6))]), (by show moZ E g th sv sm tx ln ai wr dg nb va se rc (t.heap); rw [ht]; exact ⟨_, _, _, hP, hrv_5⟩)⟩, hS.F ht⟩) hS.2.2 dX6_helping_28
  exact L2 (nhN fr) fr aa ro rv _ _ ls (by omega) rfl hrv hP hS (lv_sub hl [0, 1, 2, 3] rfl)
set_option maxHeartbeats 4000000 in
set_option maxRecDepth 100000 in
theorem c_X6_needed (l : Launch) (E : wE) (g : Nat → Nat) (th : Int32) (sv : Nat → Int32) (sm : Nat) (tx : Nat → Int32) (ln : Nat) (ai : Nat) (wr : Bool) (dg : Int64) (nb : Nat) (va : Nat → Int32) (se : Int32) (rc : Nat → MR) (u : Nat) (hu3 : u < 3) (fr : Nat) (hfr : fr ≤ 9899) (el : Bool) (hnb2 : 2 ≤ nb) (hnb : nb ≤ 12) : Met l yX6_needed wsX6_needed ({ frames := 4, cells := 0, slots := 0, locals := 94 }) (va_Pc [.ref ((g 0)), .int (nI u), .int (nI fr), .int ((bI el))] (wS E 6 g (moZ E g th sv sm tx ln ai wr dg nb va se rc))) (va_Qi (fun (r : Int32) (_ : Unit) => r = ndM nb fr el 100 0 (rc u).2) (fun _ t => moZ E g th sv sm tx ln ai wr dg nb va se rc (t.heap)) (wF 6 g)) 0 0 (wF 6 g) := by
  refine Met.ofW (cc := cX6_needed) (maxL := 6) (ret := (some .int)) (by decide) rfl ?_
  intro p e s m args below meth c s₁ B hml hv
  obtain ⟨rfl, ⟨aa, ro, rv, hP, hrv⟩, hK, hI⟩ := hv
  have hx := B.exec
  have hb := B.bytes
  have hr := B.returns
  have hts := atoms_spec (ws := wsX6_needed) B.pre
  have hown : s.vm.findClass RX6 = some m.cls := findClass_of_methodNamed B.named
  have hlocks := B.notSynchronized
  have hS : va_S (wF 6 g) s.heap s.heap [] := va_S.rf
  have hA : ∀ k, k < 6 → (wF 6 g) (g k) := wF_in
  have hl := lv_entry ([.ref ((g 0)), .int (nI u), .int (nI fr), .int ((bI el))]) (n := 6) (Nat.le_of_ble_eq_true rfl)
  rw [lg_entry_eq]
  generalize (lg_sl ([.ref ((g 0)), .int (nI u), .int (nI fr), .int ((bI el))]) ++ List.replicate (6 - (lg_sl ([.ref ((g 0)), .int (nI u), .int (nI fr), .int ((bI el))])).length) Slot.unset).toArray = ls at hl ⊢
  have hl : lv_has ls 6 [(0, .ref ((g 0))), (1, .int (nI u)), (2, .int (nI fr)), (3, .int ((bI el)))] := hl
  have hu3 : u < 3 := by omega
  have hri_1 := hrv u hu3
  obtain ⟨w_1, hv_1, hw_1, hok_1⟩ := hri_1
  rw [show rv = va_up rv u (rvE ((rc u).1) ((rc u).2.1) ((rc u).2.2.1) ((rc u).2.2.2.1) ((rc u).2.2.2.2.1) ((rc u).2.2.2.2.2.length) w_1) from by rw [← hv_1, va_up_id]] at hP
  have hkk_1 := hok_1.2.1
  have hll_1 := hok_1.1
  refine lv_aload_n hx hb dX6_needed_0 rfl (lv_at hl 0 rfl) ?_
  refine lv_iload_n hx hb dX6_needed_1 rfl (lv_at hl 1 rfl) ?_
  refine va_callv (va_runV (As := [.int (nI u)]) (rest := []) ⟨hx, hb, hml, hown, hts⟩ (c_X6_putAside l E g (mdE nb va se (va_up rv u (rvE ((rc u).1) ((rc u).2.1) ((rc u).2.2.1) ((rc u).2.2.2.1) ((rc u).2.2.2.2.1) ((rc u).2.2.2.2.2.length) w_1))) th aa sv sm tx ln ro ai wr dg u (by omega)) (cwV 1 hts gX6_needed_X6_putAside rfl rfl rfl (by decide +kernel) ⟨Nat.le_of_ble_eq_true rfl, Nat.le_of_ble_eq_true rfl⟩) ⟨wS.blind, (w_recv hK hP 0 (by decide) rfl (ci := 6) rfl), fun U hU hW => wS.go hP hK hI hU hW⟩ rfl rfl hl.1 rfl (lv_room (Nat.le_of_ble_eq_true rfl)) dX6_needed_2 ⟨Nat.zero_le _, Nat.zero_le _⟩) hS (fun q _ h => h) (fun q h => h) (fun uu t H_2 locs_2 ht hvm hw hB hz1 hk1 hS => ?_)
  rw [ht] at hB
  have hP : wP E 6 g (moF E g th (mdE nb va se (va_up rv u (rvE ((rc u).1) ((rc u).2.1) ((rc u).2.2.1) ((rc u).2.2.2.1) ((rc u).2.2.2.2.1) ((rc u).2.2.2.2.2.length) w_1))) (cpA (mdE nb va se (va_up rv u (rvE ((rc u).1) ((rc u).2.1) ((rc u).2.2.1) ((rc u).2.2.2.1) ((rc u).2.2.2.2.1) ((rc u).2.2.2.2.2.length) w_1))) (14 + 30 * u) aa 30) sv sm tx ln ro ai wr dg) H_2 := hB
  refine lv_iconst (v := 0) hx hb dX6_needed_5 (by decide) ?_
  refine lv_istore (lv' := [(4, .int 0), (0, .ref ((g 0))), (1, .int (nI u)), (2, .int (nI fr)), (3, .int ((bI el)))]) hx hb dX6_needed_6 hl (by decide) rfl (fun ls hl => ?_)
  have hres0 : ndM nb fr el 100 0 ((rc u).2.1, (rc u).2.2.1, (rc u).2.2.2.1, (rc u).2.2.2.2.1, (rc u).2.2.2.2.2) = ndM nb fr el 100 0 (rc u).2 := rfl
  have L8 : ∀ (k : Nat) (i : Nat) (q : MQ5) (w2 ro2 : Nat → Int32) (H : Heap) (locs : List Loc) (ls : Array Slot), i + k = 100 → ndM nb fr el k i q = ndM nb fr el 100 0 (rc u).2 → wtL q.2.2.2.2 w2 → wtO q.1 q.2.2.2.2 → wP E 6 g (moF E g th (mdE nb va se (va_up rv u (rvE ((rc u).1) q.1 q.2.1 q.2.2.1 q.2.2.2.1 q.2.2.2.2.length w2))) (cpA (mdE nb va se (va_up rv u (rvE ((rc u).1) ((rc u).2.1) ((rc u).2.2.1) ((rc u).2.2.2.1) ((rc u).2.2.2.2.1) ((rc u).2.2.2.2.2.length) w_1))) (14 + 30 * u) aa 30) sv sm tx ln ro2 ai wr dg) H → va_S (wF 6 g) s.heap H locs → lv_has ls 6 [(4, .int (nI i)), (0, .ref ((g 0))), (1, .int (nI u)), (2, .int (nI fr)), (3, .int ((bI el)))] → W p l e (headSpec wsX6_needed ({ frames := 4, cells := 0, slots := 0, locals := 94 })).room s m ([.ref ((g 0)), .int (nI u), .int (nI fr), .int ((bI el))] : List Value).toArray below meth c H locs 0 0 (MQ below (va_Qi (fun (r : Int32) (_ : Unit) => r = ndM nb fr el 100 0 (rc u).2) (fun _ t => moZ E g th sv sm tx ln ai wr dg nb va se rc (t.heap)) (wF 6 g)) ([.ref ((g 0)), .int (nI u), .int (nI fr), .int ((bI el))] : List Value).toArray s 0 0 (wF 6 g)) (F0 m 8 ls []) := by
    intro k
    induction k with
    | zero =>
      intro i q w2 ro2 H locs ls hi hres hw2 hok2 hP hS hl
      refine lv_iload hx hb dX6_needed_8 (lv_at hl 0 rfl) ?_
      refine lv_bipush (v := 100) hx hb dX6_needed_10 (by decide) ?_
      refine lv_icmp_ge (tgt := 62) hx hb dX6_needed_12 (by decide) (fun c_3 => ?_) (fun c_3 => ?_)
      · have n_3 : 100 ≤ i := (nI_leI (a := 100) (b := i) (by omega) (by omega)).mp c_3
        refine lv_aload_n hx hb dX6_needed_62 rfl (lv_at hl 1 rfl) ?_
        refine lv_iload_n hx hb dX6_needed_63 rfl (lv_at hl 2 rfl) ?_
        refine va_calli (va_runV (As := [.int (nI u)]) (rest := []) ⟨hx, hb, hml, hown, hts⟩ (c_X6_isDone l E g th (cpA (mdE nb va se (va_up rv u (rvE ((rc u).1) ((rc u).2.1) ((rc u).2.2.1) ((rc u).2.2.2.1) ((rc u).2.2.2.2.1) ((rc u).2.2.2.2.2.length) w_1))) (14 + 30 * u) aa 30) sv sm tx ln ro2 ai wr dg nb va se rv u ((rc u).1) q.1 q.2.1 q.2.2.1 q.2.2.2.1 q.2.2.2.2 hu3 hnb) (cwV 1 hts gX6_needed_X6_isDone rfl rfl rfl (by decide +kernel) ⟨Nat.le_of_ble_eq_true rfl, Nat.le_of_ble_eq_true rfl⟩) ⟨wS.blind, (w_recv hK hP 0 (by decide) rfl (ci := 6) rfl), fun U hU hW => wS.go ⟨_, hP, hw2, hok2⟩ hK hI hU hW⟩ rfl rfl hl.1 rfl (lv_room (Nat.le_of_ble_eq_true rfl)) dX6_needed_64 ⟨Nat.zero_le _, Nat.zero_le _⟩) hS (fun q _ h => h.elim) (fun q h => h.elim) (fun r_4 uu t H_4 locs_4 ht hvm hw hB hz1 hk1 hS => ?_)
        have hP := hP.same hk1
        obtain rfl : r_4 = (bI (decide (q.1 = 2 ^ nb - 1))) := hw
        refine lv_istore (lv' := [(5, .int ((bI (decide (q.1 = 2 ^ nb - 1))))), (4, .int (nI i)), (0, .ref ((g 0))), (1, .int (nI u)), (2, .int (nI fr)), (3, .int ((bI el)))]) hx hb dX6_needed_67 hl (by decide) rfl (fun ls hl => ?_)
        refine lv_aload_n hx hb dX6_needed_69 rfl (lv_at hl 2 rfl) ?_
        refine lv_iload_n hx hb dX6_needed_70 rfl (lv_at hl 3 rfl) ?_
        refine va_callv (va_runV (As := [.int (nI u)]) (rest := []) ⟨hx, hb, hml, hown, hts⟩ (c_X6_putBack l E g (mdE nb va se (va_up rv u (rvE ((rc u).1) q.1 q.2.1 q.2.2.1 q.2.2.2.1 q.2.2.2.2.length w2))) th (cpA (mdE nb va se (va_up rv u (rvE ((rc u).1) ((rc u).2.1) ((rc u).2.2.1) ((rc u).2.2.2.1) ((rc u).2.2.2.2.1) ((rc u).2.2.2.2.2.length) w_1))) (14 + 30 * u) aa 30) sv sm tx ln ro2 ai wr dg u (by omega)) (cwV 1 hts gX6_needed_X6_putBack rfl rfl rfl (by decide +kernel) ⟨Nat.le_of_ble_eq_true rfl, Nat.le_of_ble_eq_true rfl⟩) ⟨wS.blind, (w_recv hK hP 0 (by decide) rfl (ci := 6) rfl), fun U hU hW => wS.go hP hK hI hU hW⟩ rfl rfl hl.1 rfl (lv_room (Nat.le_of_ble_eq_true rfl)) dX6_needed_71 ⟨Nat.zero_le _, Nat.zero_le _⟩) hS (fun q _ h => h) (fun q h => h) (fun uu t H_5 locs_5 ht hvm hw hB hz1 hk1 hS => ?_)
        rw [ht] at hB
        rw [pb_md] at hB
        have hP : wP E 6 g (moF E g th (mdE nb va se (va_up rv u (fun j => if j < 30 then (cpA (mdE nb va se (va_up rv u (rvE ((rc u).1) ((rc u).2.1) ((rc u).2.2.1) ((rc u).2.2.2.1) ((rc u).2.2.2.2.1) ((rc u).2.2.2.2.2.length) w_1))) (14 + 30 * u) aa 30) j else (rvE ((rc u).1) q.1 q.2.1 q.2.2.1 q.2.2.2.1 q.2.2.2.2.length w2) j))) (cpA (mdE nb va se (va_up rv u (rvE ((rc u).1) ((rc u).2.1) ((rc u).2.2.1) ((rc u).2.2.2.1) ((rc u).2.2.2.2.1) ((rc u).2.2.2.2.2.length) w_1))) (14 + 30 * u) aa 30) sv sm tx ln ro2 ai wr dg) H_5 := hB
        have hrz_6 : ∀ j9, j9 < 3 → rvP (rc j9) ((va_up rv u (fun j => if j < 30 then (cpA (mdE nb va se (va_up rv u (rvE ((rc u).1) ((rc u).2.1) ((rc u).2.2.1) ((rc u).2.2.2.1) ((rc u).2.2.2.2.1) ((rc u).2.2.2.2.2.length) w_1))) (14 + 30 * u) aa 30) j else (rvE ((rc u).1) q.1 q.2.1 q.2.2.1 q.2.2.2.1 q.2.2.2.2.length w2) j)) j9) := rvP_id hrv (rvP_back (hrv u hu3) (fun j hj => by rw [cpA_lo hj, mdE_g hj, ← hv_1]))
        refine lv_iload hx hb dX6_needed_74 (lv_at hl 0 rfl) ?_
        refine lv_if_eq (tgt := 84) hx hb dX6_needed_76 (by decide) (fun c_7 => ?_) (fun c_7 => ?_)
        · refine lv_iconst (v := (-1)) hx hb dX6_needed_84 (by decide) ?_
          have hd9 : isDM nb q = false := bI_0 c_7
          exact W.iret (v := (-1)) hx hb hr (fun t ht hW => ⟨⟨_, (), rfl, (by show (-1) = _; rw [← hres, ndM, if_neg (by rw [hd9]; decide)]), (by show moZ E g th sv sm tx ln ai wr dg nb va se rc (t.heap); rw [ht]; exact ⟨_, _, _, hP, hrz_6⟩)⟩, hS.F ht⟩) hS.2.2 dX6_needed_85
        · refine lv_iload hx hb dX6_needed_79 (lv_at hl 1 rfl) ?_
          refine lv_goto (tgt := 85) hx hb dX6_needed_81 (by decide) ?_
          have hd9 : isDM nb q = true := bI_1 c_7
          exact W.iret (v := (nI i)) hx hb hr (fun t ht hW => ⟨⟨_, (), rfl, (by show nI i = _; rw [← hres, ndM, if_pos hd9, show i = 100 by omega]), (by show moZ E g th sv sm tx ln ai wr dg nb va se rc (t.heap); rw [ht]; exact ⟨_, _, _, hP, hrz_6⟩)⟩, hS.F ht⟩) hS.2.2 dX6_needed_85
      · have n_3 : ¬ (100 ≤ i) := fun z => c_3 ((nI_leI (a := 100) (b := i) (by omega) (by omega)).mpr z)
        exfalso
        omega
    | succ k ihk =>
      intro i q w2 ro2 H locs ls hi hres hw2 hok2 hP hS hl
      refine lv_iload hx hb dX6_needed_8 (lv_at hl 0 rfl) ?_
      refine lv_bipush (v := 100) hx hb dX6_needed_10 (by decide) ?_
      refine lv_icmp_ge (tgt := 62) hx hb dX6_needed_12 (by decide) (fun c_8 => ?_) (fun c_8 => ?_)
      · have n_8 : 100 ≤ i := (nI_leI (a := 100) (b := i) (by omega) (by omega)).mp c_8
        exfalso
        omega
      · have n_8 : ¬ (100 ≤ i) := fun z => c_8 ((nI_leI (a := 100) (b := i) (by omega) (by omega)).mpr z)
        refine lv_aload_n hx hb dX6_needed_15 rfl (lv_at hl 1 rfl) ?_
        refine lv_iload_n hx hb dX6_needed_16 rfl (lv_at hl 2 rfl) ?_
        refine va_calli (va_runV (As := [.int (nI u)]) (rest := []) ⟨hx, hb, hml, hown, hts⟩ (c_X6_isDone l E g th (cpA (mdE nb va se (va_up rv u (rvE ((rc u).1) ((rc u).2.1) ((rc u).2.2.1) ((rc u).2.2.2.1) ((rc u).2.2.2.2.1) ((rc u).2.2.2.2.2.length) w_1))) (14 + 30 * u) aa 30) sv sm tx ln ro2 ai wr dg nb va se rv u ((rc u).1) q.1 q.2.1 q.2.2.1 q.2.2.2.1 q.2.2.2.2 hu3 hnb) (cwV 1 hts gX6_needed_X6_isDone rfl rfl rfl (by decide +kernel) ⟨Nat.le_of_ble_eq_true rfl, Nat.le_of_ble_eq_true rfl⟩) ⟨wS.blind, (w_recv hK hP 0 (by decide) rfl (ci := 6) rfl), fun U hU hW => wS.go ⟨_, hP, hw2, hok2⟩ hK hI hU hW⟩ rfl rfl hl.1 rfl (lv_room (Nat.le_of_ble_eq_true rfl)) dX6_needed_17 ⟨Nat.zero_le _, Nat.zero_le _⟩) hS (fun q _ h => h.elim) (fun q h => h.elim) (fun r_9 uu t H_9 locs_9 ht hvm hw hB hz1 hk1 hS => ?_)
        have hP := hP.same hk1
        obtain rfl : r_9 = (bI (decide (q.1 = 2 ^ nb - 1))) := hw
        refine lv_if_ne (tgt := 62) hx hb dX6_needed_20 (by decide) (fun c_10 => ?_) (fun c_10 => ?_)
        · refine lv_aload_n hx hb dX6_needed_62 rfl (lv_at hl 1 rfl) ?_
          refine lv_iload_n hx hb dX6_needed_63 rfl (lv_at hl 2 rfl) ?_
          refine va_calli (va_runV (As := [.int (nI u)]) (rest := []) ⟨hx, hb, hml, hown, hts⟩ (c_X6_isDone l E g th (cpA (mdE nb va se (va_up rv u (rvE ((rc u).1) ((rc u).2.1) ((rc u).2.2.1) ((rc u).2.2.2.1) ((rc u).2.2.2.2.1) ((rc u).2.2.2.2.2.length) w_1))) (14 + 30 * u) aa 30) sv sm tx ln ro2 ai wr dg nb va se rv u ((rc u).1) q.1 q.2.1 q.2.2.1 q.2.2.2.1 q.2.2.2.2 hu3 hnb) (cwV 1 hts gX6_needed_X6_isDone rfl rfl rfl (by decide +kernel) ⟨Nat.le_of_ble_eq_true rfl, Nat.le_of_ble_eq_true rfl⟩) ⟨wS.blind, (w_recv hK hP 0 (by decide) rfl (ci := 6) rfl), fun U hU hW => wS.go ⟨_, hP, hw2, hok2⟩ hK hI hU hW⟩ rfl rfl hl.1 rfl (lv_room (Nat.le_of_ble_eq_true rfl)) dX6_needed_64 ⟨Nat.zero_le _, Nat.zero_le _⟩) hS (fun q _ h => h.elim) (fun q h => h.elim) (fun r_11 uu t H_11 locs_11 ht hvm hw hB hz1 hk1 hS => ?_)
          have hP := hP.same hk1
          obtain rfl : r_11 = (bI (decide (q.1 = 2 ^ nb - 1))) := hw
          refine lv_istore (lv' := [(5, .int ((bI (decide (q.1 = 2 ^ nb - 1))))), (4, .int (nI i)), (0, .ref ((g 0))), (1, .int (nI u)), (2, .int (nI fr)), (3, .int ((bI el)))]) hx hb dX6_needed_67 hl (by decide) rfl (fun ls hl => ?_)
          refine lv_aload_n hx hb dX6_needed_69 rfl (lv_at hl 2 rfl) ?_
          refine lv_iload_n hx hb dX6_needed_70 rfl (lv_at hl 3 rfl) ?_
          refine va_callv (va_runV (As := [.int (nI u)]) (rest := []) ⟨hx, hb, hml, hown, hts⟩ (c_X6_putBack l E g (mdE nb va se (va_up rv u (rvE ((rc u).1) q.1 q.2.1 q.2.2.1 q.2.2.2.1 q.2.2.2.2.length w2))) th (cpA (mdE nb va se (va_up rv u (rvE ((rc u).1) ((rc u).2.1) ((rc u).2.2.1) ((rc u).2.2.2.1) ((rc u).2.2.2.2.1) ((rc u).2.2.2.2.2.length) w_1))) (14 + 30 * u) aa 30) sv sm tx ln ro2 ai wr dg u (by omega)) (cwV 1 hts gX6_needed_X6_putBack rfl rfl rfl (by decide +kernel) ⟨Nat.le_of_ble_eq_true rfl, Nat.le_of_ble_eq_true rfl⟩) ⟨wS.blind, (w_recv hK hP 0 (by decide) rfl (ci := 6) rfl), fun U hU hW => wS.go hP hK hI hU hW⟩ rfl rfl hl.1 rfl (lv_room (Nat.le_of_ble_eq_true rfl)) dX6_needed_71 ⟨Nat.zero_le _, Nat.zero_le _⟩) hS (fun q _ h => h) (fun q h => h) (fun uu t H_12 locs_12 ht hvm hw hB hz1 hk1 hS => ?_)
          rw [ht] at hB
          rw [pb_md] at hB
          have hP : wP E 6 g (moF E g th (mdE nb va se (va_up rv u (fun j => if j < 30 then (cpA (mdE nb va se (va_up rv u (rvE ((rc u).1) ((rc u).2.1) ((rc u).2.2.1) ((rc u).2.2.2.1) ((rc u).2.2.2.2.1) ((rc u).2.2.2.2.2.length) w_1))) (14 + 30 * u) aa 30) j else (rvE ((rc u).1) q.1 q.2.1 q.2.2.1 q.2.2.2.1 q.2.2.2.2.length w2) j))) (cpA (mdE nb va se (va_up rv u (rvE ((rc u).1) ((rc u).2.1) ((rc u).2.2.1) ((rc u).2.2.2.1) ((rc u).2.2.2.2.1) ((rc u).2.2.2.2.2.length) w_1))) (14 + 30 * u) aa 30) sv sm tx ln ro2 ai wr dg) H_12 := hB
          have hrz_13 : ∀ j9, j9 < 3 → rvP (rc j9) ((va_up rv u (fun j => if j < 30 then (cpA (mdE nb va se (va_up rv u (rvE ((rc u).1) ((rc u).2.1) ((rc u).2.2.1) ((rc u).2.2.2.1) ((rc u).2.2.2.2.1) ((rc u).2.2.2.2.2.length) w_1))) (14 + 30 * u) aa 30) j else (rvE ((rc u).1) q.1 q.2.1 q.2.2.1 q.2.2.2.1 q.2.2.2.2.length w2) j)) j9) := rvP_id hrv (rvP_back (hrv u hu3) (fun j hj => by rw [cpA_lo hj, mdE_g hj, ← hv_1]))
          refine lv_iload hx hb dX6_needed_74 (lv_at hl 0 rfl) ?_
          refine lv_if_eq (tgt := 84) hx hb dX6_needed_76 (by decide) (fun c_14 => ?_) (fun c_14 => ?_)
          · exact absurd c_14 c_10
          · refine lv_iload hx hb dX6_needed_79 (lv_at hl 1 rfl) ?_
            refine lv_goto (tgt := 85) hx hb dX6_needed_81 (by decide) ?_
            have hd9 : isDM nb q = true := bI_1 c_14
            exact W.iret (v := (nI i)) hx hb hr (fun t ht hW => ⟨⟨_, (), rfl, (by show nI i = _; rw [← hres, ndM, if_pos hd9]), (by show moZ E g th sv sm tx ln ai wr dg nb va se rc (t.heap); rw [ht]; exact ⟨_, _, _, hP, hrz_13⟩)⟩, hS.F ht⟩) hS.2.2 dX6_needed_85
        · have hdn : isDM nb q = false := bI_0 c_10
          refine lv_aload_n hx hb dX6_needed_23 rfl (lv_at hl 1 rfl) ?_
          refine lv_iload_n hx hb dX6_needed_24 rfl (lv_at hl 2 rfl) ?_
          refine lv_aload_n hx hb dX6_needed_25 rfl (lv_at hl 1 rfl) ?_
          refine lv_iload_n hx hb dX6_needed_26 rfl (lv_at hl 3 rfl) ?_
          refine lv_iload hx hb dX6_needed_27 (lv_at hl 0 rfl) ?_
          refine lv_iadd hx hb dX6_needed_29 ?_
          rw [show (nI fr) + (nI i) = nI (fr + i) from nI_add fr i]
          refine va_calli (va_runV (As := [.int (nI (fr + i))]) (rest := [.int (nI u), .ref ((g 0))]) ⟨hx, hb, hml, hown, hts⟩ (c_X6_maskOf l E g th (cpA (mdE nb va se (va_up rv u (rvE ((rc u).1) ((rc u).2.1) ((rc u).2.2.1) ((rc u).2.2.2.1) ((rc u).2.2.2.2.1) ((rc u).2.2.2.2.2.length) w_1))) (14 + 30 * u) aa 30) sv sm tx ln ro2 ai wr dg nb va se (va_up rv u (rvE ((rc u).1) q.1 q.2.1 q.2.2.1 q.2.2.2.1 q.2.2.2.2.length w2)) (fr + i) (by omega) hnb2 hnb) (cwV 1 hts gX6_needed_X6_maskOf rfl rfl rfl (by decide +kernel) ⟨Nat.le_of_ble_eq_true rfl, Nat.le_of_ble_eq_true rfl⟩) ⟨wS.blind, (w_recv hK hP 0 (by decide) rfl (ci := 6) rfl), fun U hU hW => wS.go hP hK hI hU hW⟩ rfl rfl hl.1 rfl (lv_room (Nat.le_of_ble_eq_true rfl)) dX6_needed_30 ⟨Nat.zero_le _, Nat.zero_le _⟩) hS (fun q _ h => h.elim) (fun q h => h.elim) (fun r_15 uu t H_15 locs_15 ht hvm hw hB hz1 hk1 hS => ?_)
          have hP := hP.same hk1
          have hml_15 : mskM nb (fr + i) < 4096 := Nat.lt_of_lt_of_le (mskM_lt (by omega) (fr + i)) (pow_nb hnb)
          obtain rfl : r_15 = (nI (mskM nb (fr + i))) := hw
          refine va_calli (va_runV (As := [.int (nI u), .int ((nI (mskM nb (fr + i))))]) (rest := []) ⟨hx, hb, hml, hown, hts⟩ (c_X6_gets l E g th (cpA (mdE nb va se (va_up rv u (rvE ((rc u).1) ((rc u).2.1) ((rc u).2.2.1) ((rc u).2.2.2.1) ((rc u).2.2.2.2.1) ((rc u).2.2.2.2.2.length) w_1))) (14 + 30 * u) aa 30) sv sm tx ln ro2 ai wr dg nb va se rv u ((rc u).1) q.1 q.2.1 q.2.2.1 q.2.2.2.1 q.2.2.2.2 hu3 (mskM nb (fr + i)) (by omega)) (cwV 2 hts gX6_needed_X6_gets rfl rfl rfl (by decide +kernel) ⟨Nat.le_of_ble_eq_true rfl, Nat.le_of_ble_eq_true rfl⟩) ⟨wS.blind, (w_recv hK hP 0 (by decide) rfl (ci := 6) rfl), fun U hU hW => wS.go ⟨_, hP, hw2, hok2⟩ hK hI hU hW⟩ rfl rfl hl.1 rfl (lv_room (Nat.le_of_ble_eq_true rfl)) dX6_needed_33 ⟨Nat.zero_le _, Nat.zero_le _⟩) hS (fun q _ h => h) (fun q h => h) (fun r_16 uu t H_16 locs_16 ht hvm hw hB hz1 hk1 hS => ?_)
          rw [ht] at hB
          obtain ⟨w_16, hP, hw_16, hok_16⟩ := hB
          have hP : wP E 6 g (moF E g th (mdE nb va se (va_up rv u (rvE ((rc u).1) ((getM (mskM nb (fr + i)) (q.1, q.2.1, q.2.2.1, q.2.2.2.1, q.2.2.2.2)).1) ((getM (mskM nb (fr + i)) (q.1, q.2.1, q.2.2.1, q.2.2.2.1, q.2.2.2.2)).2.1) ((getM (mskM nb (fr + i)) (q.1, q.2.1, q.2.2.1, q.2.2.2.1, q.2.2.2.2)).2.2.1) ((getM (mskM nb (fr + i)) (q.1, q.2.1, q.2.2.1, q.2.2.2.1, q.2.2.2.2)).2.2.2.1) (((getM (mskM nb (fr + i)) (q.1, q.2.1, q.2.2.1, q.2.2.2.1, q.2.2.2.2)).2.2.2.2).length) w_16))) (cpA (mdE nb va se (va_up rv u (rvE ((rc u).1) ((rc u).2.1) ((rc u).2.2.1) ((rc u).2.2.2.1) ((rc u).2.2.2.2.1) ((rc u).2.2.2.2.2.length) w_1))) (14 + 30 * u) aa 30) sv sm tx ln ro2 ai wr dg) H_16 := hP
          have hkk_16 := hok_16.2.1
          obtain rfl : r_16 = (nI (pc (getM (mskM nb (fr + i)) (q.1, q.2.1, q.2.2.1, q.2.2.2.1, q.2.2.2.2)).1) - nI (pc q.1)) := hw
          refine lv_istore (lv' := [(5, .int ((nI (pc (getM (mskM nb (fr + i)) (q.1, q.2.1, q.2.2.1, q.2.2.2.1, q.2.2.2.2)).1) - nI (pc q.1)))), (4, .int (nI i)), (0, .ref ((g 0))), (1, .int (nI u)), (2, .int (nI fr)), (3, .int ((bI el)))]) hx hb dX6_needed_36 hl (by decide) rfl (fun ls hl => ?_)
          refine lv_iload hx hb dX6_needed_38 (lv_at hl 0 rfl) ?_
          refine lv_iload_n hx hb dX6_needed_40 rfl (lv_at hl 5 rfl) ?_
          refine lv_if_eq (tgt := 52) hx hb dX6_needed_41 (by decide) (fun c_17 => ?_) (fun c_17 => ?_)
          · refine lv_iconst (v := 0) hx hb dX6_needed_52 (by decide) ?_
            refine lv_iadd hx hb dX6_needed_53 ?_
            refine lv_istore (lv' := [(5, .int (((nI (pc (getM (mskM nb (fr + i)) (q.1, q.2.1, q.2.2.1, q.2.2.2.1, q.2.2.2.2)).1) - nI (pc q.1)) + 0))), (4, .int (nI i)), (0, .ref ((g 0))), (1, .int (nI u)), (2, .int (nI fr)), (3, .int ((bI el)))]) hx hb dX6_needed_54 hl (by decide) rfl (fun ls hl => ?_)
            refine lv_iinc (v := (nI (i + 1))) (lv' := [(4, .int (nI (i + 1))), (5, .int (((nI (pc (getM (mskM nb (fr + i)) (q.1, q.2.1, q.2.2.1, q.2.2.2.1, q.2.2.2.2)).1) - nI (pc q.1)) + 0))), (0, .ref ((g 0))), (1, .int (nI u)), (2, .int (nI fr)), (3, .int ((bI el)))]) hx hb dX6_needed_56 hl (k := 1) rfl (nI_1 _) (by decide) rfl (fun ls hl => ?_)
            refine lv_goto (tgt := 8) hx hb dX6_needed_59 (by decide) ?_
            have hst : stpM nb fr el i q = ((getM (mskM nb (fr + i)) (q.1, q.2.1, q.2.2.1, q.2.2.2.1, q.2.2.2.2)).1, (getM (mskM nb (fr + i)) (q.1, q.2.1, q.2.2.1, q.2.2.2.1, q.2.2.2.2)).2.1, (getM (mskM nb (fr + i)) (q.1, q.2.1, q.2.2.1, q.2.2.2.1, q.2.2.2.2)).2.2.1, (getM (mskM nb (fr + i)) (q.1, q.2.1, q.2.2.1, q.2.2.2.1, q.2.2.2.2)).2.2.2.1, (getM (mskM nb (fr + i)) (q.1, q.2.1, q.2.2.1, q.2.2.2.1, q.2.2.2.2)).2.2.2.2) := by rw [stpM, if_neg (by rw [bI_0 c_17]; decide)]
            exact ihk (i + 1) ((getM (mskM nb (fr + i)) (q.1, q.2.1, q.2.2.1, q.2.2.2.1, q.2.2.2.2)).1, (getM (mskM nb (fr + i)) (q.1, q.2.1, q.2.2.1, q.2.2.2.1, q.2.2.2.2)).2.1, (getM (mskM nb (fr + i)) (q.1, q.2.1, q.2.2.1, q.2.2.2.1, q.2.2.2.2)).2.2.1, (getM (mskM nb (fr + i)) (q.1, q.2.1, q.2.2.1, q.2.2.2.1, q.2.2.2.2)).2.2.2.1, (getM (mskM nb (fr + i)) (q.1, q.2.1, q.2.2.1, q.2.2.2.1, q.2.2.2.2)).2.2.2.2) w_16 ro2 _ _ ls (by omega) (by rw [← hres, ndM, if_neg (by rw [hdn]; decide), hst]) hw_16 hok_16 hP hS (lv_sub hl [0, 2, 3, 4, 5] rfl)
          · refine lv_aload_n hx hb dX6_needed_44 rfl (lv_at hl 2 rfl) ?_
            refine lv_iload_n hx hb dX6_needed_45 rfl (lv_at hl 3 rfl) ?_
            refine va_calli (va_runV (As := [.int (nI u)]) (rest := [.int ((nI (pc (getM (mskM nb (fr + i)) (q.1, q.2.1, q.2.2.1, q.2.2.2.1, q.2.2.2.2)).1) - nI (pc q.1)))]) ⟨hx, hb, hml, hown, hts⟩ (c_X6_eliminates l E g th (cpA (mdE nb va se (va_up rv u (rvE ((rc u).1) ((rc u).2.1) ((rc u).2.2.1) ((rc u).2.2.2.1) ((rc u).2.2.2.2.1) ((rc u).2.2.2.2.2.length) w_1))) (14 + 30 * u) aa 30) sv sm tx ln ro2 ai wr dg nb va se rv u ((rc u).1) ((getM (mskM nb (fr + i)) (q.1, q.2.1, q.2.2.1, q.2.2.2.1, q.2.2.2.2)).1) ((getM (mskM nb (fr + i)) (q.1, q.2.1, q.2.2.1, q.2.2.2.1, q.2.2.2.2)).2.1) ((getM (mskM nb (fr + i)) (q.1, q.2.1, q.2.2.1, q.2.2.2.1, q.2.2.2.2)).2.2.1) ((getM (mskM nb (fr + i)) (q.1, q.2.1, q.2.2.1, q.2.2.2.1, q.2.2.2.2)).2.2.2.1) ((getM (mskM nb (fr + i)) (q.1, q.2.1, q.2.2.1, q.2.2.2.1, q.2.2.2.2)).2.2.2.2) hu3 hnb) (cwV 1 hts gX6_needed_X6_eliminates rfl rfl rfl (by decide +kernel) ⟨Nat.le_of_ble_eq_true rfl, Nat.le_of_ble_eq_true rfl⟩) ⟨wS.blind, (w_recv hK hP 0 (by decide) rfl (ci := 6) rfl), fun U hU hW => wS.go ⟨_, hP, hw_16, hok_16⟩ hK hI hU hW⟩ rfl rfl hl.1 rfl (lv_room (Nat.le_of_ble_eq_true rfl)) dX6_needed_46 ⟨Nat.zero_le _, Nat.zero_le _⟩) hS (fun q _ h => h) (fun q h => h) (fun r_18 uu t H_18 locs_18 ht hvm hw hB hz1 hk1 hS => ?_)
            rw [ht] at hB
            obtain ⟨ro_18, w_18, hP, hw_18, hok_18⟩ := hB
            have hP : wP E 6 g (moF E g th (mdE nb va se (va_up rv u (rvE ((rc u).1) ((elM nb (alnM (redW ((getM (mskM nb (fr + i)) (q.1, q.2.1, q.2.2.1, q.2.2.2.1, q.2.2.2.2)).2.2.2.2))) (((getM (mskM nb (fr + i)) (q.1, q.2.1, q.2.2.1, q.2.2.2.1, q.2.2.2.2)).1), ((getM (mskM nb (fr + i)) (q.1, q.2.1, q.2.2.1, q.2.2.2.1, q.2.2.2.2)).2.2.1), ((getM (mskM nb (fr + i)) (q.1, q.2.1, q.2.2.1, q.2.2.2.1, q.2.2.2.2)).2.2.2.2))).1) ((getM (mskM nb (fr + i)) (q.1, q.2.1, q.2.2.1, q.2.2.2.1, q.2.2.2.2)).2.1) ((elM nb (alnM (redW ((getM (mskM nb (fr + i)) (q.1, q.2.1, q.2.2.1, q.2.2.2.1, q.2.2.2.2)).2.2.2.2))) (((getM (mskM nb (fr + i)) (q.1, q.2.1, q.2.2.1, q.2.2.2.1, q.2.2.2.2)).1), ((getM (mskM nb (fr + i)) (q.1, q.2.1, q.2.2.1, q.2.2.2.1, q.2.2.2.2)).2.2.1), ((getM (mskM nb (fr + i)) (q.1, q.2.1, q.2.2.1, q.2.2.2.1, q.2.2.2.2)).2.2.2.2))).2.1) ((getM (mskM nb (fr + i)) (q.1, q.2.1, q.2.2.1, q.2.2.2.1, q.2.2.2.2)).2.2.2.1) (((elM nb (alnM (redW ((getM (mskM nb (fr + i)) (q.1, q.2.1, q.2.2.1, q.2.2.2.1, q.2.2.2.2)).2.2.2.2))) (((getM (mskM nb (fr + i)) (q.1, q.2.1, q.2.2.1, q.2.2.2.1, q.2.2.2.2)).1), ((getM (mskM nb (fr + i)) (q.1, q.2.1, q.2.2.1, q.2.2.2.1, q.2.2.2.2)).2.2.1), ((getM (mskM nb (fr + i)) (q.1, q.2.1, q.2.2.1, q.2.2.2.1, q.2.2.2.2)).2.2.2.2))).2.2).length) w_18))) (cpA (mdE nb va se (va_up rv u (rvE ((rc u).1) ((rc u).2.1) ((rc u).2.2.1) ((rc u).2.2.2.1) ((rc u).2.2.2.2.1) ((rc u).2.2.2.2.2.length) w_1))) (14 + 30 * u) aa 30) sv sm tx ln ro_18 ai wr dg) H_18 := hP
            have hkk_18 := hok_18.2.1
            obtain rfl : r_18 = (nI (pc (elM nb (alnM (redW ((getM (mskM nb (fr + i)) (q.1, q.2.1, q.2.2.1, q.2.2.2.1, q.2.2.2.2)).2.2.2.2))) (((getM (mskM nb (fr + i)) (q.1, q.2.1, q.2.2.1, q.2.2.2.1, q.2.2.2.2)).1), ((getM (mskM nb (fr + i)) (q.1, q.2.1, q.2.2.1, q.2.2.2.1, q.2.2.2.2)).2.2.1), ((getM (mskM nb (fr + i)) (q.1, q.2.1, q.2.2.1, q.2.2.2.1, q.2.2.2.2)).2.2.2.2))).1) - nI (pc ((getM (mskM nb (fr + i)) (q.1, q.2.1, q.2.2.1, q.2.2.2.1, q.2.2.2.2)).1))) := hw
            refine lv_goto (tgt := 53) hx hb dX6_needed_49 (by decide) ?_
            refine lv_iadd hx hb dX6_needed_53 ?_
            refine lv_istore (lv' := [(5, .int (((nI (pc (getM (mskM nb (fr + i)) (q.1, q.2.1, q.2.2.1, q.2.2.2.1, q.2.2.2.2)).1) - nI (pc q.1)) + (nI (pc (elM nb (alnM (redW ((getM (mskM nb (fr + i)) (q.1, q.2.1, q.2.2.1, q.2.2.2.1, q.2.2.2.2)).2.2.2.2))) (((getM (mskM nb (fr + i)) (q.1, q.2.1, q.2.2.1, q.2.2.2.1, q.2.2.2.2)).1), ((getM (mskM nb (fr + i)) (q.1, q.2.1, q.2.2.1, q.2.2.2.1, q.2.2.2.2)).2.2.1), ((getM (mskM nb (fr + i)) (q.1, q.2.1, q.2.2.1, q.2.2.2.1, q.2.2.2.2)).2.2.2.2))).1) - nI (pc ((getM (mskM nb (fr + i)) (q.1, q.2.1, q.2.2.1, q.2.2.2.1, q.2.2.2.2)).1)))))), (4, .int (nI i)), (0, .ref ((g 0))), (1, .int (nI u)), (2, .int (nI fr)), (3, .int ((bI el)))]) hx hb dX6_needed_54 hl (by decide) rfl (fun ls hl => ?_)
            refine lv_iinc (v := (nI (i + 1))) (lv' := [(4, .int (nI (i + 1))), (5, .int (((nI (pc (getM (mskM nb (fr + i)) (q.1, q.2.1, q.2.2.1, q.2.2.2.1, q.2.2.2.2)).1) - nI (pc q.1)) + (nI (pc (elM nb (alnM (redW ((getM (mskM nb (fr + i)) (q.1, q.2.1, q.2.2.1, q.2.2.2.1, q.2.2.2.2)).2.2.2.2))) (((getM (mskM nb (fr + i)) (q.1, q.2.1, q.2.2.1, q.2.2.2.1, q.2.2.2.2)).1), ((getM (mskM nb (fr + i)) (q.1, q.2.1, q.2.2.1, q.2.2.2.1, q.2.2.2.2)).2.2.1), ((getM (mskM nb (fr + i)) (q.1, q.2.1, q.2.2.1, q.2.2.2.1, q.2.2.2.2)).2.2.2.2))).1) - nI (pc ((getM (mskM nb (fr + i)) (q.1, q.2.1, q.2.2.1, q.2.2.2.1, q.2.2.2.2)).1)))))), (0, .ref ((g 0))), (1, .int (nI u)), (2, .int (nI fr)), (3, .int ((bI el)))]) hx hb dX6_needed_56 hl (k := 1) rfl (nI_1 _) (by decide) rfl (fun ls hl => ?_)
            refine lv_goto (tgt := 8) hx hb dX6_needed_59 (by decide) ?_
            have hst : stpM nb fr el i q = ((elM nb (alnM (redW ((getM (mskM nb (fr + i)) (q.1, q.2.1, q.2.2.1, q.2.2.2.1, q.2.2.2.2)).2.2.2.2))) (((getM (mskM nb (fr + i)) (q.1, q.2.1, q.2.2.1, q.2.2.2.1, q.2.2.2.2)).1), ((getM (mskM nb (fr + i)) (q.1, q.2.1, q.2.2.1, q.2.2.2.1, q.2.2.2.2)).2.2.1), ((getM (mskM nb (fr + i)) (q.1, q.2.1, q.2.2.1, q.2.2.2.1, q.2.2.2.2)).2.2.2.2))).1, (getM (mskM nb (fr + i)) (q.1, q.2.1, q.2.2.1, q.2.2.2.1, q.2.2.2.2)).2.1, (elM nb (alnM (redW ((getM (mskM nb (fr + i)) (q.1, q.2.1, q.2.2.1, q.2.2.2.1, q.2.2.2.2)).2.2.2.2))) (((getM (mskM nb (fr + i)) (q.1, q.2.1, q.2.2.1, q.2.2.2.1, q.2.2.2.2)).1), ((getM (mskM nb (fr + i)) (q.1, q.2.1, q.2.2.1, q.2.2.2.1, q.2.2.2.2)).2.2.1), ((getM (mskM nb (fr + i)) (q.1, q.2.1, q.2.2.1, q.2.2.2.1, q.2.2.2.2)).2.2.2.2))).2.1, (getM (mskM nb (fr + i)) (q.1, q.2.1, q.2.2.1, q.2.2.2.1, q.2.2.2.2)).2.2.2.1, (elM nb (alnM (redW ((getM (mskM nb (fr + i)) (q.1, q.2.1, q.2.2.1, q.2.2.2.1, q.2.2.2.2)).2.2.2.2))) (((getM (mskM nb (fr + i)) (q.1, q.2.1, q.2.2.1, q.2.2.2.1, q.2.2.2.2)).1), ((getM (mskM nb (fr + i)) (q.1, q.2.1, q.2.2.1, q.2.2.2.1, q.2.2.2.2)).2.2.1), ((getM (mskM nb (fr + i)) (q.1, q.2.1, q.2.2.1, q.2.2.2.1, q.2.2.2.2)).2.2.2.2))).2.2) := by rw [stpM, if_pos (bI_1 c_17)]; rfl --]
            exact ihk (i + 1) ((elM nb (alnM (redW ((getM (mskM nb (fr + i)) (q.1, q.2.1, q.2.2.1, q.2.2.2.1, q.2.2.2.2)).2.2.2.2))) (((getM (mskM nb (fr + i)) (q.1, q.2.1, q.2.2.1, q.2.2.2.1, q.2.2.2.2)).1), ((getM (mskM nb (fr + i)) (q.1, q.2.1, q.2.2.1, q.2.2.2.1, q.2.2.2.2)).2.2.1), ((getM (mskM nb (fr + i)) (q.1, q.2.1, q.2.2.1, q.2.2.2.1, q.2.2.2.2)).2.2.2.2))).1, (getM (mskM nb (fr + i)) (q.1, q.2.1, q.2.2.1, q.2.2.2.1, q.2.2.2.2)).2.1, (elM nb (alnM (redW ((getM (mskM nb (fr + i)) (q.1, q.2.1, q.2.2.1, q.2.2.2.1, q.2.2.2.2)).2.2.2.2))) (((getM (mskM nb (fr + i)) (q.1, q.2.1, q.2.2.1, q.2.2.2.1, q.2.2.2.2)).1), ((getM (mskM nb (fr + i)) (q.1, q.2.1, q.2.2.1, q.2.2.2.1, q.2.2.2.2)).2.2.1), ((getM (mskM nb (fr + i)) (q.1, q.2.1, q.2.2.1, q.2.2.2.1, q.2.2.2.2)).2.2.2.2))).2.1, (getM (mskM nb (fr + i)) (q.1, q.2.1, q.2.2.1, q.2.2.2.1, q.2.2.2.2)).2.2.2.1, (elM nb (alnM (redW ((getM (mskM nb (fr + i)) (q.1, q.2.1, q.2.2.1, q.2.2.2.1, q.2.2.2.2)).2.2.2.2))) (((getM (mskM nb (fr + i)) (q.1, q.2.1, q.2.2.1, q.2.2.2.1, q.2.2.2.2)).1), ((getM (mskM nb (fr + i)) (q.1, q.2.1, q.2.2.1, q.2.2.2.1, q.2.2.2.2)).2.2.1), ((getM (mskM nb (fr + i)) (q.1, q.2.1, q.2.2.1, q.2.2.2.1, q.2.2.2.2)).2.2.2.2))).2.2) w_18 ro_18 _ _ ls (by omega) (by rw [← hres, ndM, if_neg (by rw [hdn]; decide), hst]) hw_18 hok_18 hP hS (lv_sub hl [0, 2, 3, 4, 5] rfl)
  exact L8 100 0 ((rc u).2.1, (rc u).2.2.1, (rc u).2.2.2.1, (rc u).2.2.2.2.1, (rc u).2.2.2.2.2) w_1 ro _ _ ls rfl rfl hw_1 hok_1 hP hS (lv_sub hl [0, 1, 2, 3, 4] rfl)
set_option maxHeartbeats 4000000 in
set_option maxRecDepth 100000 in
theorem c_X6_receivers (l : Launch) (E : wE) (g : Nat → Nat) (th : Int32) (sv : Nat → Int32) (sm : Nat) (tx : Nat → Int32) (ln : Nat) (ai : Nat) (wr : Bool) (dg : Int64) (nb : Nat) (va : Nat → Int32) (se : Int32) (rc : Nat → MR) (j : Nat) (hj : j = 2 ∨ j = 3) (hnb : nb ≤ 12) : Met l yX6_receivers wsX6_receivers ({ frames := 2, cells := 0, slots := 0, locals := 42 }) (va_Pc [.ref ((g 0)), .int (nI j)] (wS E 6 g (moZ E g th sv sm tx ln ai wr dg nb va se rc))) (va_Qi (fun (r : Int32) (_ : Unit) => r = nI (cntM (cF j nb) rc 3)) (fun _ t => moZ E g th sv sm tx ln ai wr dg nb va se rc (t.heap)) (wF 6 g)) 0 0 (wF 6 g) := by
  refine Met.ofW (cc := cX6_receivers) (maxL := 4) (ret := (some .int)) (by decide) rfl ?_
  intro p e s m args below meth c s₁ B hml hv
  obtain ⟨rfl, ⟨aa, ro, rv, hP, hrv⟩, hK, hI⟩ := hv
  have hx := B.exec
  have hb := B.bytes
  have hr := B.returns
  have hts := atoms_spec (ws := wsX6_receivers) B.pre
  have hown : s.vm.findClass RX6 = some m.cls := findClass_of_methodNamed B.named
  have hlocks := B.notSynchronized
  have hS : va_S (wF 6 g) s.heap s.heap [] := va_S.rf
  have hin6 : ∀ w ∈ wsX60, w ∈ wsX6_receivers := by decide +kernel
  have hA : ∀ k, k < 6 → (wF 6 g) (g k) := wF_in
  have hl := lv_entry ([.ref ((g 0)), .int (nI j)]) (n := 4) (Nat.le_of_ble_eq_true rfl)
  rw [lg_entry_eq]
  generalize (lg_sl ([.ref ((g 0)), .int (nI j)]) ++ List.replicate (4 - (lg_sl ([.ref ((g 0)), .int (nI j)])).length) Slot.unset).toArray = ls at hl ⊢
  have hl : lv_has ls 4 [(0, .ref ((g 0))), (1, .int (nI j))] := hl
  refine lv_iconst (v := 0) hx hb dX6_receivers_0 (by decide) ?_
  refine lv_istore_n (lv' := [(2, .int 0), (0, .ref ((g 0))), (1, .int (nI j))]) hx hb dX6_receivers_1 rfl hl (by decide) rfl (fun ls hl => ?_)
  refine lv_iconst (v := 0) hx hb dX6_receivers_2 (by decide) ?_
  refine lv_istore_n (lv' := [(3, .int 0), (2, .int 0), (0, .ref ((g 0))), (1, .int (nI j))]) hx hb dX6_receivers_3 rfl hl (by decide) rfl (fun ls hl => ?_)
  have L4 : ∀ (k : Nat) (i : Nat) (rv2 : Nat → Nat → Int32) (H : Heap) (locs : List Loc) (ls : Array Slot), i + k = 3 → (∀ j9, j9 < 3 → rvP (rc j9) (rv2 j9)) → wP E 6 g (moF E g th (mdE nb va se rv2) aa sv sm tx ln ro ai wr dg) H → va_S (wF 6 g) s.heap H locs → lv_has ls 4 [(3, .int (nI i)), (2, .int (nI (cntM (cF j nb) rc i))), (0, .ref ((g 0))), (1, .int (nI j))] → W p l e (headSpec wsX6_receivers ({ frames := 2, cells := 0, slots := 0, locals := 42 })).room s m ([.ref ((g 0)), .int (nI j)] : List Value).toArray below meth c H locs 0 0 (MQ below (va_Qi (fun (r : Int32) (_ : Unit) => r = nI (cntM (cF j nb) rc 3)) (fun _ t => moZ E g th sv sm tx ln ai wr dg nb va se rc (t.heap)) (wF 6 g)) ([.ref ((g 0)), .int (nI j)] : List Value).toArray s 0 0 (wF 6 g)) (F0 m 4 ls []) := by
    intro k
    induction k with
    | zero =>
      intro i rv2 H locs ls hi hrv2 hP hS hl
      refine lv_iload_n hx hb dX6_receivers_4 rfl (lv_at hl 0 rfl) ?_
      refine lv_iconst (v := 3) hx hb dX6_receivers_5 (by decide) ?_
      refine lv_icmp_ge (tgt := 53) hx hb dX6_receivers_6 (by decide) (fun c_1 => ?_) (fun c_1 => ?_)
      · have n_1 : 3 ≤ i := (nI_leI (a := 3) (b := i) (by omega) (by omega)).mp c_1
        refine lv_iload_n hx hb dX6_receivers_53 rfl (lv_at hl 1 rfl) ?_
        exact W.iret (v := (nI (cntM (cF j nb) rc i))) hx hb hr (fun t ht hW => ⟨⟨_, (), rfl, (by show _ = _; rw [show 3 = i by omega]), (by show moZ E g th sv sm tx ln ai wr dg nb va se rc (t.heap); rw [ht]; exact ⟨_, _, _, hP, hrv2⟩)⟩, hS.F ht⟩) hS.2.2 dX6_receivers_54
      · have n_1 : ¬ (3 ≤ i) := fun z => c_1 ((nI_leI (a := 3) (b := i) (by omega) (by omega)).mpr z)
        exfalso
        omega
    | succ k ihk =>
      intro i rv2 H locs ls hi hrv2 hP hS hl
      refine lv_iload_n hx hb dX6_receivers_4 rfl (lv_at hl 0 rfl) ?_
      refine lv_iconst (v := 3) hx hb dX6_receivers_5 (by decide) ?_
      refine lv_icmp_ge (tgt := 53) hx hb dX6_receivers_6 (by decide) (fun c_2 => ?_) (fun c_2 => ?_)
      · have n_2 : 3 ≤ i := (nI_leI (a := 3) (b := i) (by omega) (by omega)).mp c_2
        exfalso
        omega
      · have n_2 : ¬ (3 ≤ i) := fun z => c_2 ((nI_leI (a := 3) (b := i) (by omega) (by omega)).mpr z)
        have hu3 : i < 3 := by omega
        have hri_3 := hrv2 i hu3
        obtain ⟨w_3, hv_3, hw_3, hok_3⟩ := hri_3
        rw [show rv2 = va_up rv2 i (rvE ((rc i).1) ((rc i).2.1) ((rc i).2.2.1) ((rc i).2.2.2.1) ((rc i).2.2.2.2.1) ((rc i).2.2.2.2.2.length) w_3) from by rw [← hv_3, va_up_id]] at hP
        have hkk_3 := hok_3.2.1
        have hll_3 := hok_3.1
        refine lv_iload_n hx hb dX6_receivers_9 rfl (lv_at hl 1 rfl) ?_
        refine lv_iload_n hx hb dX6_receivers_10 rfl (lv_at hl 3 rfl) ?_
        refine lv_iconst (v := 2) hx hb dX6_receivers_11 (by decide) ?_
        refine lv_icmp_ne (tgt := 32) hx hb dX6_receivers_12 (by decide) (fun c_4 => ?_) (fun c_4 => ?_)
        · have n_4 : ¬ (j = 2) := fun z => c_4 ((nI_eq (a := j) (b := 2) (by omega) (by omega)).mpr z)
          refine lv_aload_n hx hb dX6_receivers_32 rfl (lv_at hl 2 rfl) ?_
          refine lv_iload_n hx hb dX6_receivers_33 rfl (lv_at hl 0 rfl) ?_
          refine va_calli (va_runV (As := [.int (nI i)]) (rest := [.int (nI (cntM (cF j nb) rc i))]) ⟨hx, hb, hml, hown, hts⟩ (c_X6_isDone l E g th aa sv sm tx ln ro ai wr dg nb va se rv2 i ((rc i).1) ((rc i).2.1) ((rc i).2.2.1) ((rc i).2.2.2.1) ((rc i).2.2.2.2.1) ((rc i).2.2.2.2.2) hu3 hnb) (cwV 1 hts gX6_receivers_X6_isDone rfl rfl rfl (by decide +kernel) ⟨Nat.le_of_ble_eq_true rfl, Nat.le_of_ble_eq_true rfl⟩) ⟨wS.blind, (w_recv hK hP 0 (by decide) rfl (ci := 6) rfl), fun U hU hW => wS.go ⟨_, hP, hw_3, hok_3⟩ hK hI hU hW⟩ rfl rfl hl.1 rfl (lv_room (Nat.le_of_ble_eq_true rfl)) dX6_receivers_34 ⟨Nat.zero_le _, Nat.zero_le _⟩) hS (fun q _ h => h.elim) (fun q h => h.elim) (fun r_5 uu t H_5 locs_5 ht hvm hw hB hz1 hk1 hS => ?_)
          have hP := hP.same hk1
          obtain rfl : r_5 = (bI (decide (((rc i).2.1) = 2 ^ nb - 1))) := hw
          refine lv_if_eq (tgt := 44) hx hb dX6_receivers_37 (by decide) (fun c_6 => ?_) (fun c_6 => ?_)
          · refine lv_iconst (v := 0) hx hb dX6_receivers_44 (by decide) ?_
            refine lv_iadd hx hb dX6_receivers_45 ?_
            rw [show (nI (cntM (cF j nb) rc i)) + 0 = nI ((cntM (cF j nb) rc i) + 0) from nI_add (cntM (cF j nb) rc i) 0]
            refine lv_istore_n (lv' := [(2, .int (nI ((cntM (cF j nb) rc i) + 0))), (3, .int (nI i)), (0, .ref ((g 0))), (1, .int (nI j))]) hx hb dX6_receivers_46 rfl hl (by decide) rfl (fun ls hl => ?_)
            refine lv_iinc (v := (nI (i + 1))) (lv' := [(3, .int (nI (i + 1))), (2, .int (nI ((cntM (cF j nb) rc i) + 0))), (0, .ref ((g 0))), (1, .int (nI j))]) hx hb dX6_receivers_47 hl (k := 1) rfl (nI_1 _) (by decide) rfl (fun ls hl => ?_)
            refine lv_goto (tgt := 4) hx hb dX6_receivers_50 (by decide) ?_
            rw [cntM_n (f := cF j nb) (by rw [cF, if_neg n_4]; exact bI_0 c_6)] at hl
            exact ihk (i + 1) (va_up rv2 i (rvE ((rc i).1) ((rc i).2.1) ((rc i).2.2.1) ((rc i).2.2.2.1) ((rc i).2.2.2.2.1) ((rc i).2.2.2.2.2.length) w_3)) _ _ ls (by omega) (rvP_id hrv2 ⟨w_3, rfl, hw_3, hok_3⟩) hP hS (lv_sub hl [0, 1, 2, 3] rfl)
          · refine lv_iconst (v := 1) hx hb dX6_receivers_40 (by decide) ?_
            refine lv_goto (tgt := 45) hx hb dX6_receivers_41 (by decide) ?_
            refine lv_iadd hx hb dX6_receivers_45 ?_
            rw [show (nI (cntM (cF j nb) rc i)) + 1 = nI ((cntM (cF j nb) rc i) + 1) from nI_add (cntM (cF j nb) rc i) 1]
            refine lv_istore_n (lv' := [(2, .int (nI ((cntM (cF j nb) rc i) + 1))), (3, .int (nI i)), (0, .ref ((g 0))), (1, .int (nI j))]) hx hb dX6_receivers_46 rfl hl (by decide) rfl (fun ls hl => ?_)
            refine lv_iinc (v := (nI (i + 1))) (lv' := [(3, .int (nI (i + 1))), (2, .int (nI ((cntM (cF j nb) rc i) + 1))), (0, .ref ((g 0))), (1, .int (nI j))]) hx hb dX6_receivers_47 hl (k := 1) rfl (nI_1 _) (by decide) rfl (fun ls hl => ?_)
            refine lv_goto (tgt := 4) hx hb dX6_receivers_50 (by decide) ?_
            rw [cntM_y (f := cF j nb) (by rw [cF, if_neg n_4]; exact bI_1 c_6)] at hl
            exact ihk (i + 1) (va_up rv2 i (rvE ((rc i).1) ((rc i).2.1) ((rc i).2.2.1) ((rc i).2.2.2.1) ((rc i).2.2.2.2.1) ((rc i).2.2.2.2.2.length) w_3)) _ _ ls (by omega) (rvP_id hrv2 ⟨w_3, rfl, hw_3, hok_3⟩) hP hS (lv_sub hl [0, 1, 2, 3] rfl)
        · have n_4 : j = 2 := (nI_eq (a := j) (b := 2) (by omega) (by omega)).mp c_4
          refine lv_aload_n hx hb dX6_receivers_15 rfl (lv_at hl 2 rfl) ?_
          refine w_get (C := RX6) (T := TX6) (N := 11) (ci := 6) (v := .ref ((g 1))) hx hb hts hin6 hown hK hP 0 (by decide) rfl rfl 1 (by decide) (hts (.fieldLink RX6 7 "MixedBlocksModel" "s" "[I") (List.mem_of_getElem? (i := 1) rfl)) (fun _ h9 => h9) rfl dX6_receivers_16 ?_
          refine lv_iload_n hx hb dX6_receivers_19 rfl (lv_at hl 0 rfl) ?_
          refine lv_iconst (v := 0) hx hb dX6_receivers_20 (by decide) ?_
          refine va_calli (va_runS (As := [.int (nI i), .int 0]) (rest := [.ref ((g 1)), .int (nI (cntM (cF j nb) rc i))]) ⟨hx, hb, hml, hown, hts⟩ (c_X6_of l i 0) (va_cwS 2 hts gX6_receivers_X6_of rfl rfl rfl (by decide +kernel) ⟨Nat.le_of_ble_eq_true rfl, Nat.le_of_ble_eq_true rfl⟩) ⟨wU_blind, fun U hU hW => ⟨rfl, trivial⟩⟩ rfl rfl hl.1 rfl (lv_room (Nat.le_of_ble_eq_true rfl)) dX6_receivers_21 ⟨Nat.zero_le _, Nat.zero_le _⟩) hS (fun q _ h => h.elim) (fun q h => h.elim) (fun r_7 uu t H_7 locs_7 ht hvm hw hB hz1 hk1 hS => ?_)
          have hP := hP.same hk1
          obtain rfl : r_7 = (nI (14 + 30 * i + 0)) := hw
          refine w_iald hx hb hK hP 1 (by decide) rfl (vp_in_nI (by omega) (by decide)) dX6_receivers_24 ?_
          rw [nI_clamp (by omega), md_g0]
          refine lv_iconst (v := 1) hx hb dX6_receivers_25 (by decide) ?_
          refine lv_icmp_ne (tgt := 44) hx hb dX6_receivers_26 (by decide) (fun c_8 => ?_) (fun c_8 => ?_)
          · refine lv_iconst (v := 0) hx hb dX6_receivers_44 (by decide) ?_
            refine lv_iadd hx hb dX6_receivers_45 ?_
            rw [show (nI (cntM (cF j nb) rc i)) + 0 = nI ((cntM (cF j nb) rc i) + 0) from nI_add (cntM (cF j nb) rc i) 0]
            refine lv_istore_n (lv' := [(2, .int (nI ((cntM (cF j nb) rc i) + 0))), (3, .int (nI i)), (0, .ref ((g 0))), (1, .int (nI j))]) hx hb dX6_receivers_46 rfl hl (by decide) rfl (fun ls hl => ?_)
            refine lv_iinc (v := (nI (i + 1))) (lv' := [(3, .int (nI (i + 1))), (2, .int (nI ((cntM (cF j nb) rc i) + 0))), (0, .ref ((g 0))), (1, .int (nI j))]) hx hb dX6_receivers_47 hl (k := 1) rfl (nI_1 _) (by decide) rfl (fun ls hl => ?_)
            refine lv_goto (tgt := 4) hx hb dX6_receivers_50 (by decide) ?_
            rw [cntM_n (f := cF j nb) (by rw [cF, if_pos n_4]; exact bI_n1 c_8)] at hl
            exact ihk (i + 1) (va_up rv2 i (rvE ((rc i).1) ((rc i).2.1) ((rc i).2.2.1) ((rc i).2.2.2.1) ((rc i).2.2.2.2.1) ((rc i).2.2.2.2.2.length) w_3)) _ _ ls (by omega) (rvP_id hrv2 ⟨w_3, rfl, hw_3, hok_3⟩) hP hS (lv_sub hl [0, 1, 2, 3] rfl)
          · refine lv_goto (tgt := 40) hx hb dX6_receivers_29 (by decide) ?_
            refine lv_iconst (v := 1) hx hb dX6_receivers_40 (by decide) ?_
            refine lv_goto (tgt := 45) hx hb dX6_receivers_41 (by decide) ?_
            refine lv_iadd hx hb dX6_receivers_45 ?_
            rw [show (nI (cntM (cF j nb) rc i)) + 1 = nI ((cntM (cF j nb) rc i) + 1) from nI_add (cntM (cF j nb) rc i) 1]
            refine lv_istore_n (lv' := [(2, .int (nI ((cntM (cF j nb) rc i) + 1))), (3, .int (nI i)), (0, .ref ((g 0))), (1, .int (nI j))]) hx hb dX6_receivers_46 rfl hl (by decide) rfl (fun ls hl => ?_)
            refine lv_iinc (v := (nI (i + 1))) (lv' := [(3, .int (nI (i + 1))), (2, .int (nI ((cntM (cF j nb) rc i) + 1))), (0, .ref ((g 0))), (1, .int (nI j))]) hx hb dX6_receivers_47 hl (k := 1) rfl (nI_1 _) (by decide) rfl (fun ls hl => ?_)
            refine lv_goto (tgt := 4) hx hb dX6_receivers_50 (by decide) ?_
            rw [cntM_y (f := cF j nb) (by rw [cF, if_pos n_4]; exact bI_e1 c_8)] at hl
            exact ihk (i + 1) (va_up rv2 i (rvE ((rc i).1) ((rc i).2.1) ((rc i).2.2.1) ((rc i).2.2.2.1) ((rc i).2.2.2.2.1) ((rc i).2.2.2.2.2.length) w_3)) _ _ ls (by omega) (rvP_id hrv2 ⟨w_3, rfl, hw_3, hok_3⟩) hP hS (lv_sub hl [0, 1, 2, 3] rfl)
  exact L4 3 0 rv _ _ ls rfl hrv hP hS (lv_sub hl [0, 1, 2, 3] rfl)
set_option maxHeartbeats 4000000 in
set_option maxRecDepth 100000 in
theorem c_X6_told (l : Launch) (E : wE) (g : Nat → Nat) (th : Int32) (sv : Nat → Int32) (sm : Nat) (tx : Nat → Int32) (ln : Nat) (ai : Nat) (wr : Bool) (dg : Int64) (nb : Nat) (va : Nat → Int32) (se : Int32) (rc : Nat → MR) (u : Nat) (hu3 : u < 3) (j : Nat) (hj9 : j < 9) (hnb : nb ≤ 12) : Met l yX6_told wsX6_told ({ frames := 3, cells := 0, slots := 0, locals := 67 }) (va_Pc [.ref ((g 0)), .int (nI u), .int (nI j)] (wS E 6 g (moZ E g th sv sm tx ln ai wr dg nb va se rc))) (va_Qi (fun (r : Int32) (_ : Unit) => r = numM nb (rc u) j) (fun _ t => moZ E g th sv sm tx ln ai wr dg nb va se rc (t.heap)) (wF 6 g)) 0 0 (wF 6 g) := by
  refine Met.ofW (cc := cX6_told) (maxL := 3) (ret := (some .int)) (by decide) rfl ?_
  intro p e s m args below meth c s₁ B hml hv
  obtain ⟨rfl, ⟨aa, ro, rv, hP, hrv⟩, hK, hI⟩ := hv
  have hx := B.exec
  have hb := B.bytes
  have hr := B.returns
  have hts := atoms_spec (ws := wsX6_told) B.pre
  have hown : s.vm.findClass RX6 = some m.cls := findClass_of_methodNamed B.named
  have hlocks := B.notSynchronized
  have hS : va_S (wF 6 g) s.heap s.heap [] := va_S.rf
  have hin6 : ∀ w ∈ wsX60, w ∈ wsX6_told := by decide +kernel
  have hA : ∀ k, k < 6 → (wF 6 g) (g k) := wF_in
  have hl := lv_entry ([.ref ((g 0)), .int (nI u), .int (nI j)]) (n := 3) (Nat.le_of_ble_eq_true rfl)
  rw [lg_entry_eq]
  generalize (lg_sl ([.ref ((g 0)), .int (nI u), .int (nI j)]) ++ List.replicate (3 - (lg_sl ([.ref ((g 0)), .int (nI u), .int (nI j)])).length) Slot.unset).toArray = ls at hl ⊢
  have hl : lv_has ls 3 [(0, .ref ((g 0))), (1, .int (nI u)), (2, .int (nI j))] := hl
  refine lv_iload_n hx hb dX6_told_0 rfl (lv_at hl 2 rfl) ?_
  have hu3 : u < 3 := by omega
  have hri_1 := hrv u hu3
  obtain ⟨w_1, hv_1, hw_1, hok_1⟩ := hri_1
  rw [show rv = va_up rv u (rvE ((rc u).1) ((rc u).2.1) ((rc u).2.2.1) ((rc u).2.2.2.1) ((rc u).2.2.2.2.1) ((rc u).2.2.2.2.2.length) w_1) from by rw [← hv_1, va_up_id]] at hP
  have hkk_1 := hok_1.2.1
  have hll_1 := hok_1.1
  obtain rfl | rfl | rfl | rfl | rfl | rfl | rfl | rfl | rfl : j = 0 ∨ j = 1 ∨ j = 2 ∨ j = 3 ∨ j = 4 ∨ j = 5 ∨ j = 6 ∨ j = 7 ∨ j = 8 := by omega
  · refine lv_tableIn (off := 47) (tgt := 48) hx hb dX6_told_1 (by decide) (by decide) (by decide +kernel) (by decide) ?_
    refine lv_aload_n hx hb dX6_told_48 rfl (lv_at hl 0 rfl) ?_
    refine w_get (C := RX6) (T := TX6) (N := 11) (ci := 6) (v := .ref ((g 1))) hx hb hts hin6 hown hK hP 0 (by decide) rfl rfl 1 (by decide) (hts (.fieldLink RX6 7 "MixedBlocksModel" "s" "[I") (List.mem_of_getElem? (i := 1) rfl)) (fun _ h9 => h9) rfl dX6_told_49 ?_
    refine lv_iload_n hx hb dX6_told_52 rfl (lv_at hl 1 rfl) ?_
    refine lv_iconst (v := 0) hx hb dX6_told_53 (by decide) ?_
    refine va_calli (va_runS (As := [.int (nI u), .int 0]) (rest := [.ref ((g 1))]) ⟨hx, hb, hml, hown, hts⟩ (c_X6_of l u 0) (va_cwS 2 hts gX6_told_X6_of rfl rfl rfl (by decide +kernel) ⟨Nat.le_of_ble_eq_true rfl, Nat.le_of_ble_eq_true rfl⟩) ⟨wU_blind, fun U hU hW => ⟨rfl, trivial⟩⟩ rfl rfl hl.1 rfl (lv_room (Nat.le_of_ble_eq_true rfl)) dX6_told_54 ⟨Nat.zero_le _, Nat.zero_le _⟩) hS (fun q _ h => h.elim) (fun q h => h.elim) (fun r_2 uu t H_2 locs_2 ht hvm hw hB hz1 hk1 hS => ?_)
    have hP := hP.same hk1
    obtain rfl : r_2 = (nI (14 + 30 * u + 0)) := hw
    refine w_iald hx hb hK hP 1 (by decide) rfl (vp_in_nI (by omega) (by decide)) dX6_told_57 ?_
    rw [nI_clamp (by omega), md_g0]
    have hrz : ∀ j9, j9 < 3 → rvP (rc j9) (va_up rv u (rvE ((rc u).1) ((rc u).2.1) ((rc u).2.2.1) ((rc u).2.2.2.1) ((rc u).2.2.2.2.1) ((rc u).2.2.2.2.2.length) w_1) j9) := rvP_id hrv ⟨w_1, rfl, hw_1, hok_1⟩
    exact W.iret (v := (bI ((rc u).1))) hx hb hr (fun t ht hW => ⟨⟨_, (), rfl, rfl, (by show moZ E g th sv sm tx ln ai wr dg nb va se rc (t.heap); rw [ht]; exact ⟨_, _, _, hP, hrz⟩)⟩, hS.F ht⟩) hS.2.2 dX6_told_58
  · refine lv_tableIn (off := 58) (tgt := 59) hx hb dX6_told_1 (by decide) (by decide) (by decide +kernel) (by decide) ?_
    refine lv_aload_n hx hb dX6_told_59 rfl (lv_at hl 0 rfl) ?_
    refine w_get (C := RX6) (T := TX6) (N := 11) (ci := 6) (v := .ref ((g 1))) hx hb hts hin6 hown hK hP 0 (by decide) rfl rfl 1 (by decide) (hts (.fieldLink RX6 7 "MixedBlocksModel" "s" "[I") (List.mem_of_getElem? (i := 1) rfl)) (fun _ h9 => h9) rfl dX6_told_60 ?_
    refine lv_iload_n hx hb dX6_told_63 rfl (lv_at hl 1 rfl) ?_
    refine lv_iconst (v := 1) hx hb dX6_told_64 (by decide) ?_
    refine va_calli (va_runS (As := [.int (nI u), .int 1]) (rest := [.ref ((g 1))]) ⟨hx, hb, hml, hown, hts⟩ (c_X6_of l u 1) (va_cwS 2 hts gX6_told_X6_of rfl rfl rfl (by decide +kernel) ⟨Nat.le_of_ble_eq_true rfl, Nat.le_of_ble_eq_true rfl⟩) ⟨wU_blind, fun U hU hW => ⟨rfl, trivial⟩⟩ rfl rfl hl.1 rfl (lv_room (Nat.le_of_ble_eq_true rfl)) dX6_told_65 ⟨Nat.zero_le _, Nat.zero_le _⟩) hS (fun q _ h => h.elim) (fun q h => h.elim) (fun r_3 uu t H_3 locs_3 ht hvm hw hB hz1 hk1 hS => ?_)
    have hP := hP.same hk1
    obtain rfl : r_3 = (nI (14 + 30 * u + 1)) := hw
    refine w_iald hx hb hK hP 1 (by decide) rfl (vp_in_nI (by omega) (by decide)) dX6_told_68 ?_
    rw [nI_clamp (by omega), md_g1]
    refine va_calli (va_runS (As := [.int (nI ((rc u).2.1))]) (rest := []) ⟨hx, hb, hml, hown, hts⟩ (c_X6_bits l ((rc u).2.1) (by omega)) (va_cwS 1 hts gX6_told_X6_bits rfl rfl rfl (by decide +kernel) ⟨Nat.le_of_ble_eq_true rfl, Nat.le_of_ble_eq_true rfl⟩) ⟨wU_blind, fun U hU hW => ⟨rfl, trivial⟩⟩ rfl rfl hl.1 rfl (lv_room (Nat.le_of_ble_eq_true rfl)) dX6_told_69 ⟨Nat.zero_le _, Nat.zero_le _⟩) hS (fun q _ h => h.elim) (fun q h => h.elim) (fun r_5 uu t H_5 locs_5 ht hvm hw hB hz1 hk1 hS => ?_)
    have hP := hP.same hk1
    have hpl_4 := pc_le ((rc u).2.1)
    obtain rfl : r_5 = (nI (pc ((rc u).2.1))) := hw
    have hrz : ∀ j9, j9 < 3 → rvP (rc j9) (va_up rv u (rvE ((rc u).1) ((rc u).2.1) ((rc u).2.2.1) ((rc u).2.2.2.1) ((rc u).2.2.2.2.1) ((rc u).2.2.2.2.2.length) w_1) j9) := rvP_id hrv ⟨w_1, rfl, hw_1, hok_1⟩
    exact W.iret (v := (nI (pc ((rc u).2.1)))) hx hb hr (fun t ht hW => ⟨⟨_, (), rfl, rfl, (by show moZ E g th sv sm tx ln ai wr dg nb va se rc (t.heap); rw [ht]; exact ⟨_, _, _, hP, hrz⟩)⟩, hS.F ht⟩) hS.2.2 dX6_told_72
  · refine lv_tableIn (off := 72) (tgt := 73) hx hb dX6_told_1 (by decide) (by decide) (by decide +kernel) (by decide) ?_
    refine lv_aload_n hx hb dX6_told_73 rfl (lv_at hl 0 rfl) ?_
    refine w_get (C := RX6) (T := TX6) (N := 11) (ci := 6) (v := .ref ((g 1))) hx hb hts hin6 hown hK hP 0 (by decide) rfl rfl 1 (by decide) (hts (.fieldLink RX6 7 "MixedBlocksModel" "s" "[I") (List.mem_of_getElem? (i := 1) rfl)) (fun _ h9 => h9) rfl dX6_told_74 ?_
    refine lv_iload_n hx hb dX6_told_77 rfl (lv_at hl 1 rfl) ?_
    refine lv_iconst (v := 1) hx hb dX6_told_78 (by decide) ?_
    refine va_calli (va_runS (As := [.int (nI u), .int 1]) (rest := [.ref ((g 1))]) ⟨hx, hb, hml, hown, hts⟩ (c_X6_of l u 1) (va_cwS 2 hts gX6_told_X6_of rfl rfl rfl (by decide +kernel) ⟨Nat.le_of_ble_eq_true rfl, Nat.le_of_ble_eq_true rfl⟩) ⟨wU_blind, fun U hU hW => ⟨rfl, trivial⟩⟩ rfl rfl hl.1 rfl (lv_room (Nat.le_of_ble_eq_true rfl)) dX6_told_79 ⟨Nat.zero_le _, Nat.zero_le _⟩) hS (fun q _ h => h.elim) (fun q h => h.elim) (fun r_6 uu t H_6 locs_6 ht hvm hw hB hz1 hk1 hS => ?_)
    have hP := hP.same hk1
    obtain rfl : r_6 = (nI (14 + 30 * u + 1)) := hw
    refine w_iald hx hb hK hP 1 (by decide) rfl (vp_in_nI (by omega) (by decide)) dX6_told_82 ?_
    rw [nI_clamp (by omega), md_g1]
    have hrz : ∀ j9, j9 < 3 → rvP (rc j9) (va_up rv u (rvE ((rc u).1) ((rc u).2.1) ((rc u).2.2.1) ((rc u).2.2.2.1) ((rc u).2.2.2.2.1) ((rc u).2.2.2.2.2.length) w_1) j9) := rvP_id hrv ⟨w_1, rfl, hw_1, hok_1⟩
    exact W.iret (v := (nI ((rc u).2.1))) hx hb hr (fun t ht hW => ⟨⟨_, (), rfl, rfl, (by show moZ E g th sv sm tx ln ai wr dg nb va se rc (t.heap); rw [ht]; exact ⟨_, _, _, hP, hrz⟩)⟩, hS.F ht⟩) hS.2.2 dX6_told_83
  · refine lv_tableIn (off := 83) (tgt := 84) hx hb dX6_told_1 (by decide) (by decide) (by decide +kernel) (by decide) ?_
    refine lv_aload_n hx hb dX6_told_84 rfl (lv_at hl 0 rfl) ?_
    refine w_get (C := RX6) (T := TX6) (N := 11) (ci := 6) (v := .ref ((g 1))) hx hb hts hin6 hown hK hP 0 (by decide) rfl rfl 1 (by decide) (hts (.fieldLink RX6 7 "MixedBlocksModel" "s" "[I") (List.mem_of_getElem? (i := 1) rfl)) (fun _ h9 => h9) rfl dX6_told_85 ?_
    refine lv_iload_n hx hb dX6_told_88 rfl (lv_at hl 1 rfl) ?_
    refine lv_iconst (v := 5) hx hb dX6_told_89 (by decide) ?_
    refine va_calli (va_runS (As := [.int (nI u), .int 5]) (rest := [.ref ((g 1))]) ⟨hx, hb, hml, hown, hts⟩ (c_X6_of l u 5) (va_cwS 2 hts gX6_told_X6_of rfl rfl rfl (by decide +kernel) ⟨Nat.le_of_ble_eq_true rfl, Nat.le_of_ble_eq_true rfl⟩) ⟨wU_blind, fun U hU hW => ⟨rfl, trivial⟩⟩ rfl rfl hl.1 rfl (lv_room (Nat.le_of_ble_eq_true rfl)) dX6_told_90 ⟨Nat.zero_le _, Nat.zero_le _⟩) hS (fun q _ h => h.elim) (fun q h => h.elim) (fun r_7 uu t H_7 locs_7 ht hvm hw hB hz1 hk1 hS => ?_)
    have hP := hP.same hk1
    obtain rfl : r_7 = (nI (14 + 30 * u + 5)) := hw
    refine w_iald hx hb hK hP 1 (by decide) rfl (vp_in_nI (by omega) (by decide)) dX6_told_93 ?_
    rw [nI_clamp (by omega), md_g5]
    have hrz : ∀ j9, j9 < 3 → rvP (rc j9) (va_up rv u (rvE ((rc u).1) ((rc u).2.1) ((rc u).2.2.1) ((rc u).2.2.2.1) ((rc u).2.2.2.2.1) ((rc u).2.2.2.2.2.length) w_1) j9) := rvP_id hrv ⟨w_1, rfl, hw_1, hok_1⟩
    exact W.iret (v := (nI ((rc u).2.2.2.2.2.length))) hx hb hr (fun t ht hW => ⟨⟨_, (), rfl, rfl, (by show moZ E g th sv sm tx ln ai wr dg nb va se rc (t.heap); rw [ht]; exact ⟨_, _, _, hP, hrz⟩)⟩, hS.F ht⟩) hS.2.2 dX6_told_94
  · refine lv_tableIn (off := 94) (tgt := 95) hx hb dX6_told_1 (by decide) (by decide) (by decide +kernel) (by decide) ?_
    refine lv_aload_n hx hb dX6_told_95 rfl (lv_at hl 0 rfl) ?_
    refine w_get (C := RX6) (T := TX6) (N := 11) (ci := 6) (v := .ref ((g 1))) hx hb hts hin6 hown hK hP 0 (by decide) rfl rfl 1 (by decide) (hts (.fieldLink RX6 7 "MixedBlocksModel" "s" "[I") (List.mem_of_getElem? (i := 1) rfl)) (fun _ h9 => h9) rfl dX6_told_96 ?_
    refine lv_iload_n hx hb dX6_told_99 rfl (lv_at hl 1 rfl) ?_
    refine lv_iconst (v := 2) hx hb dX6_told_100 (by decide) ?_
    refine lv_iload_n hx hb dX6_told_101 rfl (lv_at hl 2 rfl) ?_
    refine lv_iadd hx hb dX6_told_102 ?_
    rw [show (2 : Int32) + (nI 4) = (6 : Int32) from rfl]
    refine lv_iconst (v := 4) hx hb dX6_told_103 (by decide) ?_
    refine lv_isub hx hb dX6_told_104 ?_
    rw [show (6 - 4 : Int32) = 2 from rfl]
    refine va_calli (va_runS (As := [.int (nI u), .int 2]) (rest := [.ref ((g 1))]) ⟨hx, hb, hml, hown, hts⟩ (c_X6_of l u 2) (va_cwS 2 hts gX6_told_X6_of rfl rfl rfl (by decide +kernel) ⟨Nat.le_of_ble_eq_true rfl, Nat.le_of_ble_eq_true rfl⟩) ⟨wU_blind, fun U hU hW => ⟨rfl, trivial⟩⟩ rfl rfl hl.1 rfl (lv_room (Nat.le_of_ble_eq_true rfl)) dX6_told_105 ⟨Nat.zero_le _, Nat.zero_le _⟩) hS (fun q _ h => h.elim) (fun q h => h.elim) (fun r_8 uu t H_8 locs_8 ht hvm hw hB hz1 hk1 hS => ?_)
    have hP := hP.same hk1
    obtain rfl : r_8 = (nI (14 + 30 * u + 2)) := hw
    refine w_iald hx hb hK hP 1 (by decide) rfl (vp_in_nI (by omega) (by decide)) dX6_told_108 ?_
    rw [nI_clamp (by omega), md_g2]
    have hrz : ∀ j9, j9 < 3 → rvP (rc j9) (va_up rv u (rvE ((rc u).1) ((rc u).2.1) ((rc u).2.2.1) ((rc u).2.2.2.1) ((rc u).2.2.2.2.1) ((rc u).2.2.2.2.2.length) w_1) j9) := rvP_id hrv ⟨w_1, rfl, hw_1, hok_1⟩
    exact W.iret (v := ((rc u).2.2.1)) hx hb hr (fun t ht hW => ⟨⟨_, (), rfl, rfl, (by show moZ E g th sv sm tx ln ai wr dg nb va se rc (t.heap); rw [ht]; exact ⟨_, _, _, hP, hrz⟩)⟩, hS.F ht⟩) hS.2.2 dX6_told_109
  · refine lv_tableIn (off := 94) (tgt := 95) hx hb dX6_told_1 (by decide) (by decide) (by decide +kernel) (by decide) ?_
    refine lv_aload_n hx hb dX6_told_95 rfl (lv_at hl 0 rfl) ?_
    refine w_get (C := RX6) (T := TX6) (N := 11) (ci := 6) (v := .ref ((g 1))) hx hb hts hin6 hown hK hP 0 (by decide) rfl rfl 1 (by decide) (hts (.fieldLink RX6 7 "MixedBlocksModel" "s" "[I") (List.mem_of_getElem? (i := 1) rfl)) (fun _ h9 => h9) rfl dX6_told_96 ?_
    refine lv_iload_n hx hb dX6_told_99 rfl (lv_at hl 1 rfl) ?_
    refine lv_iconst (v := 2) hx hb dX6_told_100 (by decide) ?_
    refine lv_iload_n hx hb dX6_told_101 rfl (lv_at hl 2 rfl) ?_
    refine lv_iadd hx hb dX6_told_102 ?_
    rw [show (2 : Int32) + (nI 5) = (7 : Int32) from rfl]
    refine lv_iconst (v := 4) hx hb dX6_told_103 (by decide) ?_
    refine lv_isub hx hb dX6_told_104 ?_
    rw [show (7 - 4 : Int32) = 3 from rfl]
    refine va_calli (va_runS (As := [.int (nI u), .int 3]) (rest := [.ref ((g 1))]) ⟨hx, hb, hml, hown, hts⟩ (c_X6_of l u 3) (va_cwS 2 hts gX6_told_X6_of rfl rfl rfl (by decide +kernel) ⟨Nat.le_of_ble_eq_true rfl, Nat.le_of_ble_eq_true rfl⟩) ⟨wU_blind, fun U hU hW => ⟨rfl, trivial⟩⟩ rfl rfl hl.1 rfl (lv_room (Nat.le_of_ble_eq_true rfl)) dX6_told_105 ⟨Nat.zero_le _, Nat.zero_le _⟩) hS (fun q _ h => h.elim) (fun q h => h.elim) (fun r_9 uu t H_9 locs_9 ht hvm hw hB hz1 hk1 hS => ?_)
    have hP := hP.same hk1
    obtain rfl : r_9 = (nI (14 + 30 * u + 3)) := hw
    refine w_iald hx hb hK hP 1 (by decide) rfl (vp_in_nI (by omega) (by decide)) dX6_told_108 ?_
    rw [nI_clamp (by omega), md_g3]
    have hrz : ∀ j9, j9 < 3 → rvP (rc j9) (va_up rv u (rvE ((rc u).1) ((rc u).2.1) ((rc u).2.2.1) ((rc u).2.2.2.1) ((rc u).2.2.2.2.1) ((rc u).2.2.2.2.2.length) w_1) j9) := rvP_id hrv ⟨w_1, rfl, hw_1, hok_1⟩
    exact W.iret (v := ((rc u).2.2.2.1)) hx hb hr (fun t ht hW => ⟨⟨_, (), rfl, rfl, (by show moZ E g th sv sm tx ln ai wr dg nb va se rc (t.heap); rw [ht]; exact ⟨_, _, _, hP, hrz⟩)⟩, hS.F ht⟩) hS.2.2 dX6_told_109
  · refine lv_tableIn (off := 94) (tgt := 95) hx hb dX6_told_1 (by decide) (by decide) (by decide +kernel) (by decide) ?_
    refine lv_aload_n hx hb dX6_told_95 rfl (lv_at hl 0 rfl) ?_
    refine w_get (C := RX6) (T := TX6) (N := 11) (ci := 6) (v := .ref ((g 1))) hx hb hts hin6 hown hK hP 0 (by decide) rfl rfl 1 (by decide) (hts (.fieldLink RX6 7 "MixedBlocksModel" "s" "[I") (List.mem_of_getElem? (i := 1) rfl)) (fun _ h9 => h9) rfl dX6_told_96 ?_
    refine lv_iload_n hx hb dX6_told_99 rfl (lv_at hl 1 rfl) ?_
    refine lv_iconst (v := 2) hx hb dX6_told_100 (by decide) ?_
    refine lv_iload_n hx hb dX6_told_101 rfl (lv_at hl 2 rfl) ?_
    refine lv_iadd hx hb dX6_told_102 ?_
    rw [show (2 : Int32) + (nI 6) = (8 : Int32) from rfl]
    refine lv_iconst (v := 4) hx hb dX6_told_103 (by decide) ?_
    refine lv_isub hx hb dX6_told_104 ?_
    rw [show (8 - 4 : Int32) = 4 from rfl]
    refine va_calli (va_runS (As := [.int (nI u), .int 4]) (rest := [.ref ((g 1))]) ⟨hx, hb, hml, hown, hts⟩ (c_X6_of l u 4) (va_cwS 2 hts gX6_told_X6_of rfl rfl rfl (by decide +kernel) ⟨Nat.le_of_ble_eq_true rfl, Nat.le_of_ble_eq_true rfl⟩) ⟨wU_blind, fun U hU hW => ⟨rfl, trivial⟩⟩ rfl rfl hl.1 rfl (lv_room (Nat.le_of_ble_eq_true rfl)) dX6_told_105 ⟨Nat.zero_le _, Nat.zero_le _⟩) hS (fun q _ h => h.elim) (fun q h => h.elim) (fun r_10 uu t H_10 locs_10 ht hvm hw hB hz1 hk1 hS => ?_)
    have hP := hP.same hk1
    obtain rfl : r_10 = (nI (14 + 30 * u + 4)) := hw
    refine w_iald hx hb hK hP 1 (by decide) rfl (vp_in_nI (by omega) (by decide)) dX6_told_108 ?_
    rw [nI_clamp (by omega), md_g4]
    have hrz : ∀ j9, j9 < 3 → rvP (rc j9) (va_up rv u (rvE ((rc u).1) ((rc u).2.1) ((rc u).2.2.1) ((rc u).2.2.2.1) ((rc u).2.2.2.2.1) ((rc u).2.2.2.2.2.length) w_1) j9) := rvP_id hrv ⟨w_1, rfl, hw_1, hok_1⟩
    exact W.iret (v := ((rc u).2.2.2.2.1)) hx hb hr (fun t ht hW => ⟨⟨_, (), rfl, rfl, (by show moZ E g th sv sm tx ln ai wr dg nb va se rc (t.heap); rw [ht]; exact ⟨_, _, _, hP, hrz⟩)⟩, hS.F ht⟩) hS.2.2 dX6_told_109
  · refine lv_tableIn (off := 109) (tgt := 110) hx hb dX6_told_1 (by decide) (by decide) (by decide +kernel) (by decide) ?_
    refine lv_aload_n hx hb dX6_told_110 rfl (lv_at hl 0 rfl) ?_
    refine lv_iload_n hx hb dX6_told_111 rfl (lv_at hl 1 rfl) ?_
    refine va_calli (va_runV (As := [.int (nI u)]) (rest := []) ⟨hx, hb, hml, hown, hts⟩ (c_X6_isDone l E g th aa sv sm tx ln ro ai wr dg nb va se rv u ((rc u).1) ((rc u).2.1) ((rc u).2.2.1) ((rc u).2.2.2.1) ((rc u).2.2.2.2.1) ((rc u).2.2.2.2.2) hu3 hnb) (cwV 1 hts gX6_told_X6_isDone rfl rfl rfl (by decide +kernel) ⟨Nat.le_of_ble_eq_true rfl, Nat.le_of_ble_eq_true rfl⟩) ⟨wS.blind, (w_recv hK hP 0 (by decide) rfl (ci := 6) rfl), fun U hU hW => wS.go ⟨_, hP, hw_1, hok_1⟩ hK hI hU hW⟩ rfl rfl hl.1 rfl (lv_room (Nat.le_of_ble_eq_true rfl)) dX6_told_112 ⟨Nat.zero_le _, Nat.zero_le _⟩) hS (fun q _ h => h.elim) (fun q h => h.elim) (fun r_11 uu t H_11 locs_11 ht hvm hw hB hz1 hk1 hS => ?_)
    have hP := hP.same hk1
    obtain rfl : r_11 = (bI (decide (((rc u).2.1) = 2 ^ nb - 1))) := hw
    refine lv_if_eq (tgt := 122) hx hb dX6_told_115 (by decide) (fun c_12 => ?_) (fun c_12 => ?_)
    · refine lv_iconst (v := 0) hx hb dX6_told_122 (by decide) ?_
      have hrz : ∀ j9, j9 < 3 → rvP (rc j9) (va_up rv u (rvE ((rc u).1) ((rc u).2.1) ((rc u).2.2.1) ((rc u).2.2.2.1) ((rc u).2.2.2.2.1) ((rc u).2.2.2.2.2.length) w_1) j9) := rvP_id hrv ⟨w_1, rfl, hw_1, hok_1⟩
      exact W.iret (v := 0) hx hb hr (fun t ht hW => ⟨⟨_, (), rfl, (by show 0 = bI _; rw [show isDM nb (rc u).2 = false from bI_0 c_12]; rfl), (by show moZ E g th sv sm tx ln ai wr dg nb va se rc (t.heap); rw [ht]; exact ⟨_, _, _, hP, hrz⟩)⟩, hS.F ht⟩) hS.2.2 dX6_told_123
    · refine lv_iconst (v := 1) hx hb dX6_told_118 (by decide) ?_
      refine lv_goto (tgt := 123) hx hb dX6_told_119 (by decide) ?_
      have hrz : ∀ j9, j9 < 3 → rvP (rc j9) (va_up rv u (rvE ((rc u).1) ((rc u).2.1) ((rc u).2.2.1) ((rc u).2.2.2.1) ((rc u).2.2.2.2.1) ((rc u).2.2.2.2.2.length) w_1) j9) := rvP_id hrv ⟨w_1, rfl, hw_1, hok_1⟩
      exact W.iret (v := 1) hx hb hr (fun t ht hW => ⟨⟨_, (), rfl, (by show 1 = bI _; rw [show isDM nb (rc u).2 = true from bI_1 c_12]; rfl), (by show moZ E g th sv sm tx ln ai wr dg nb va se rc (t.heap); rw [ht]; exact ⟨_, _, _, hP, hrz⟩)⟩, hS.F ht⟩) hS.2.2 dX6_told_123
  · refine lv_tableOut (tgt := 124) hx hb dX6_told_1 (by decide) (by decide) ?_
    refine lv_aload_n hx hb dX6_told_124 rfl (lv_at hl 0 rfl) ?_
    refine lv_iload_n hx hb dX6_told_125 rfl (lv_at hl 1 rfl) ?_
    refine va_calli (va_runV (As := [.int (nI u)]) (rest := []) ⟨hx, hb, hml, hown, hts⟩ (c_X6_rank l E g th aa sv sm tx ln ro ai wr dg nb va se rv u ((rc u).1) ((rc u).2.1) ((rc u).2.2.1) ((rc u).2.2.2.1) ((rc u).2.2.2.2.1) ((rc u).2.2.2.2.2) hu3 ) (cwV 1 hts gX6_told_X6_rank rfl rfl rfl (by decide +kernel) ⟨Nat.le_of_ble_eq_true rfl, Nat.le_of_ble_eq_true rfl⟩) ⟨wS.blind, (w_recv hK hP 0 (by decide) rfl (ci := 6) rfl), fun U hU hW => wS.go ⟨_, hP, hw_1, hok_1⟩ hK hI hU hW⟩ rfl rfl hl.1 rfl (lv_room (Nat.le_of_ble_eq_true rfl)) dX6_told_126 ⟨Nat.zero_le _, Nat.zero_le _⟩) hS (fun q _ h => h) (fun q h => h) (fun r_13 uu t H_13 locs_13 ht hvm hw hB hz1 hk1 hS => ?_)
    rw [ht] at hB
    obtain ⟨ro_13, w_13, hP, hw_13, hok_13⟩ := hB
    have hP : wP E 6 g (moF E g th (mdE nb va se (va_up rv u (rvE ((rc u).1) ((rc u).2.1) ((rc u).2.2.1) ((rc u).2.2.2.1) ((rc u).2.2.2.2.1) (((rc u).2.2.2.2.2).length) w_13))) aa sv sm tx ln ro_13 ai wr dg) H_13 := hP
    have hkk_13 := hok_13.2.1
    obtain rfl : r_13 = (nI (pc ((rc u).2.1) + (redW ((rc u).2.2.2.2.2)).length)) := hw
    have hrz : ∀ j9, j9 < 3 → rvP (rc j9) (va_up rv u (rvE ((rc u).1) ((rc u).2.1) ((rc u).2.2.1) ((rc u).2.2.2.1) ((rc u).2.2.2.2.1) (((rc u).2.2.2.2.2).length) w_13) j9) := rvP_id hrv ⟨w_13, rfl, hw_13, hok_13⟩
    exact W.iret (v := (nI (pc ((rc u).2.1) + (redW ((rc u).2.2.2.2.2)).length))) hx hb hr (fun t ht hW => ⟨⟨_, (), rfl, rfl, (by show moZ E g th sv sm tx ln ai wr dg nb va se rc (t.heap); rw [ht]; exact ⟨_, _, _, hP, hrz⟩)⟩, hS.F ht⟩) hS.2.2 dX6_told_129
set_option maxHeartbeats 4000000 in
set_option maxRecDepth 100000 in
theorem c_X6_counted (l : Launch) (E : wE) (g : Nat → Nat) (th : Int32) (sv : Nat → Int32) (sm : Nat) (tx : Nat → Int32) (ln : Nat) (ai : Nat) (wr : Bool) (dg : Int64) (nb : Nat) (va : Nat → Int32) (se : Int32) (rc : Nat → MR) (j : Nat) (hj6 : j < 6) (hnb : nb ≤ 12) : Met l yX6_counted wsX6_counted ({ frames := 3, cells := 0, slots := 0, locals := 65 }) (va_Pc [.ref ((g 0)), .int (nI j)] (wS E 6 g (moZ E g th sv sm tx ln ai wr dg nb va se rc))) (va_Qi (fun (r : Int32) (_ : Unit) => r = ctM nb va se rc sm j) (fun _ t => moZ E g th sv sm tx ln ai wr dg nb va se rc (t.heap)) (wF 6 g)) 0 0 (wF 6 g) := by
  refine Met.ofW (cc := cX6_counted) (maxL := 2) (ret := (some .int)) (by decide) rfl ?_
  intro p e s m args below meth c s₁ B hml hv
  obtain ⟨rfl, ⟨aa, ro, rv, hP, hrv⟩, hK, hI⟩ := hv
  have hx := B.exec
  have hb := B.bytes
  have hr := B.returns
  have hts := atoms_spec (ws := wsX6_counted) B.pre
  have hown : s.vm.findClass RX6 = some m.cls := findClass_of_methodNamed B.named
  have hlocks := B.notSynchronized
  have hS : va_S (wF 6 g) s.heap s.heap [] := va_S.rf
  have hin6 : ∀ w ∈ wsX60, w ∈ wsX6_counted := by decide +kernel
  have hA : ∀ k, k < 6 → (wF 6 g) (g k) := wF_in
  have hl := lv_entry ([.ref ((g 0)), .int (nI j)]) (n := 2) (Nat.le_of_ble_eq_true rfl)
  rw [lg_entry_eq]
  generalize (lg_sl ([.ref ((g 0)), .int (nI j)]) ++ List.replicate (2 - (lg_sl ([.ref ((g 0)), .int (nI j)])).length) Slot.unset).toArray = ls at hl ⊢
  have hl : lv_has ls 2 [(0, .ref ((g 0))), (1, .int (nI j))] := hl
  have h2p := pow_nb hnb
  have h2q := Nat.two_pow_pos nb
  refine lv_iload_n hx hb dX6_counted_0 rfl (lv_at hl 1 rfl) ?_
  obtain rfl | rfl | rfl | rfl | rfl | rfl : j = 0 ∨ j = 1 ∨ j = 2 ∨ j = 3 ∨ j = 4 ∨ j = 5 := by omega
  · refine lv_tableIn (off := 35) (tgt := 36) hx hb dX6_counted_1 (by decide) (by decide) (by decide +kernel) (by decide) ?_
    refine lv_aload_n hx hb dX6_counted_36 rfl (lv_at hl 0 rfl) ?_
    refine w_get (C := RX6) (T := TX6) (N := 11) (ci := 6) (v := .ref ((g 1))) hx hb hts hin6 hown hK hP 0 (by decide) rfl rfl 1 (by decide) (hts (.fieldLink RX6 7 "MixedBlocksModel" "s" "[I") (List.mem_of_getElem? (i := 1) rfl)) (fun _ h9 => h9) rfl dX6_counted_37 ?_
    refine lv_iconst (v := 0) hx hb dX6_counted_40 (by decide) ?_
    refine lv_iload_n hx hb dX6_counted_41 rfl (lv_at hl 1 rfl) ?_
    refine lv_iadd hx hb dX6_counted_42 ?_
    rw [show (0 : Int32) + (nI 0) = (0 : Int32) from rfl]
    refine w_iald hx hb hK hP 1 (by decide) rfl (vp_in_nI (n := 0) (by decide) (by decide)) dX6_counted_43 ?_
    rw [mdE_0]
    exact W.iret (v := (nI nb)) hx hb hr (fun t ht hW => ⟨⟨_, (), rfl, rfl, (by show moZ E g th sv sm tx ln ai wr dg nb va se rc (t.heap); rw [ht]; exact ⟨_, _, _, hP, hrv⟩)⟩, hS.F ht⟩) hS.2.2 dX6_counted_44
  · refine lv_tableIn (off := 35) (tgt := 36) hx hb dX6_counted_1 (by decide) (by decide) (by decide +kernel) (by decide) ?_
    refine lv_aload_n hx hb dX6_counted_36 rfl (lv_at hl 0 rfl) ?_
    refine w_get (C := RX6) (T := TX6) (N := 11) (ci := 6) (v := .ref ((g 1))) hx hb hts hin6 hown hK hP 0 (by decide) rfl rfl 1 (by decide) (hts (.fieldLink RX6 7 "MixedBlocksModel" "s" "[I") (List.mem_of_getElem? (i := 1) rfl)) (fun _ h9 => h9) rfl dX6_counted_37 ?_
    refine lv_iconst (v := 0) hx hb dX6_counted_40 (by decide) ?_
    refine lv_iload_n hx hb dX6_counted_41 rfl (lv_at hl 1 rfl) ?_
    refine lv_iadd hx hb dX6_counted_42 ?_
    rw [show (0 : Int32) + (nI 1) = (1 : Int32) from rfl]
    refine w_iald hx hb hK hP 1 (by decide) rfl (vp_in_nI (n := 1) (by decide) (by decide)) dX6_counted_43 ?_
    rw [mdE_1]
    exact W.iret (v := se) hx hb hr (fun t ht hW => ⟨⟨_, (), rfl, rfl, (by show moZ E g th sv sm tx ln ai wr dg nb va se rc (t.heap); rw [ht]; exact ⟨_, _, _, hP, hrv⟩)⟩, hS.F ht⟩) hS.2.2 dX6_counted_44
  · refine lv_tableIn (off := 44) (tgt := 45) hx hb dX6_counted_1 (by decide) (by decide) (by decide +kernel) (by decide) ?_
    refine lv_aload_n hx hb dX6_counted_45 rfl (lv_at hl 0 rfl) ?_
    refine lv_iload_n hx hb dX6_counted_46 rfl (lv_at hl 1 rfl) ?_
    refine va_calli (va_runV (As := [.int (nI 2)]) (rest := []) ⟨hx, hb, hml, hown, hts⟩ (c_X6_receivers l E g th sv sm tx ln ai wr dg nb va se rc 2 (by omega) hnb) (cwV 1 hts gX6_counted_X6_receivers rfl rfl rfl (by decide +kernel) ⟨Nat.le_of_ble_eq_true rfl, Nat.le_of_ble_eq_true rfl⟩) ⟨wS.blind, (w_recv hK hP 0 (by decide) rfl (ci := 6) rfl), fun U hU hW => wS.go ⟨_, _, _, hP, hrv⟩ hK hI hU hW⟩ rfl rfl hl.1 rfl (lv_room (Nat.le_of_ble_eq_true rfl)) dX6_counted_47 ⟨Nat.zero_le _, Nat.zero_le _⟩) hS (fun q _ h => h) (fun q h => h) (fun r_1 uu t H_1 locs_1 ht hvm hw hB hz1 hk1 hS => ?_)
    rw [ht] at hB
    obtain ⟨aa_1, ro_1, rv_1, hP, hrv_1⟩ := hB
    have hP : wP E 6 g (moF E g th (mdE nb va se rv_1) aa_1 sv sm tx ln ro_1 ai wr dg) H_1 := hP
    obtain rfl : r_1 = (nI (cntM (cF 2 nb) rc 3)) := hw
    exact W.iret (v := (nI (cntM (cF 2 nb) rc 3))) hx hb hr (fun t ht hW => ⟨⟨_, (), rfl, rfl, (by show moZ E g th sv sm tx ln ai wr dg nb va se rc (t.heap); rw [ht]; exact ⟨_, _, _, hP, hrv_1⟩)⟩, hS.F ht⟩) hS.2.2 dX6_counted_50
  · refine lv_tableIn (off := 44) (tgt := 45) hx hb dX6_counted_1 (by decide) (by decide) (by decide +kernel) (by decide) ?_
    refine lv_aload_n hx hb dX6_counted_45 rfl (lv_at hl 0 rfl) ?_
    refine lv_iload_n hx hb dX6_counted_46 rfl (lv_at hl 1 rfl) ?_
    refine va_calli (va_runV (As := [.int (nI 3)]) (rest := []) ⟨hx, hb, hml, hown, hts⟩ (c_X6_receivers l E g th sv sm tx ln ai wr dg nb va se rc 3 (by omega) hnb) (cwV 1 hts gX6_counted_X6_receivers rfl rfl rfl (by decide +kernel) ⟨Nat.le_of_ble_eq_true rfl, Nat.le_of_ble_eq_true rfl⟩) ⟨wS.blind, (w_recv hK hP 0 (by decide) rfl (ci := 6) rfl), fun U hU hW => wS.go ⟨_, _, _, hP, hrv⟩ hK hI hU hW⟩ rfl rfl hl.1 rfl (lv_room (Nat.le_of_ble_eq_true rfl)) dX6_counted_47 ⟨Nat.zero_le _, Nat.zero_le _⟩) hS (fun q _ h => h) (fun q h => h) (fun r_2 uu t H_2 locs_2 ht hvm hw hB hz1 hk1 hS => ?_)
    rw [ht] at hB
    obtain ⟨aa_2, ro_2, rv_2, hP, hrv_2⟩ := hB
    have hP : wP E 6 g (moF E g th (mdE nb va se rv_2) aa_2 sv sm tx ln ro_2 ai wr dg) H_2 := hP
    obtain rfl : r_2 = (nI (cntM (cF 3 nb) rc 3)) := hw
    exact W.iret (v := (nI (cntM (cF 3 nb) rc 3))) hx hb hr (fun t ht hW => ⟨⟨_, (), rfl, rfl, (by show moZ E g th sv sm tx ln ai wr dg nb va se rc (t.heap); rw [ht]; exact ⟨_, _, _, hP, hrv_2⟩)⟩, hS.F ht⟩) hS.2.2 dX6_counted_50
  · refine lv_tableIn (off := 50) (tgt := 51) hx hb dX6_counted_1 (by decide) (by decide) (by decide +kernel) (by decide) ?_
    refine lv_aload_n hx hb dX6_counted_51 rfl (lv_at hl 0 rfl) ?_
    refine lv_aload_n hx hb dX6_counted_52 rfl (lv_at hl 0 rfl) ?_
    refine va_calli (va_runV (As := []) (rest := [.ref ((g 0))]) ⟨hx, hb, hml, hown, hts⟩ (c_X6_all l E g th aa sv sm tx ln ro ai wr dg nb va se rv hnb) (cwV 0 hts gX6_counted_X6_all rfl rfl rfl (by decide +kernel) ⟨Nat.le_of_ble_eq_true rfl, Nat.le_of_ble_eq_true rfl⟩) ⟨wS.blind, (w_recv hK hP 0 (by decide) rfl (ci := 6) rfl), fun U hU hW => wS.go hP hK hI hU hW⟩ rfl rfl hl.1 rfl (lv_room (Nat.le_of_ble_eq_true rfl)) dX6_counted_53 ⟨Nat.zero_le _, Nat.zero_le _⟩) hS (fun q _ h => h.elim) (fun q h => h.elim) (fun r_3 uu t H_3 locs_3 ht hvm hw hB hz1 hk1 hS => ?_)
    have hP := hP.same hk1
    obtain rfl : r_3 = (nI (2 ^ nb - 1)) := hw
    refine va_calli (va_runV (As := [.int ((nI (2 ^ nb - 1)))]) (rest := []) ⟨hx, hb, hml, hown, hts⟩ (c_X6_valueOf l E g th aa sv sm tx ln ro ai wr dg nb va se rv (2 ^ nb - 1) (by omega) hnb) (cwV 1 hts gX6_counted_X6_valueOf rfl rfl rfl (by decide +kernel) ⟨Nat.le_of_ble_eq_true rfl, Nat.le_of_ble_eq_true rfl⟩) ⟨wS.blind, (w_recv hK hP 0 (by decide) rfl (ci := 6) rfl), fun U hU hW => wS.go hP hK hI hU hW⟩ rfl rfl hl.1 rfl (lv_room (Nat.le_of_ble_eq_true rfl)) dX6_counted_56 ⟨Nat.zero_le _, Nat.zero_le _⟩) hS (fun q _ h => h.elim) (fun q h => h.elim) (fun r_4 uu t H_4 locs_4 ht hvm hw hB hz1 hk1 hS => ?_)
    have hP := hP.same hk1
    obtain rfl : r_4 = (vlM nb va (2 ^ nb - 1)) := hw
    exact W.iret (v := (vlM nb va (2 ^ nb - 1))) hx hb hr (fun t ht hW => ⟨⟨_, (), rfl, rfl, (by show moZ E g th sv sm tx ln ai wr dg nb va se rc (t.heap); rw [ht]; exact ⟨_, _, _, hP, hrv⟩)⟩, hS.F ht⟩) hS.2.2 dX6_counted_59
  · refine lv_tableOut (tgt := 60) hx hb dX6_counted_1 (by decide) (by decide) ?_
    refine lv_aload_n hx hb dX6_counted_60 rfl (lv_at hl 0 rfl) ?_
    refine w_get (C := RX6) (T := TX6) (N := 11) (ci := 6) (v := .int (nI sm)) hx hb hts hin6 hown hK hP 0 (by decide) rfl rfl 4 (by decide) (hts (.fieldLink RX6 33 "MixedBlocksModel" "savedMany" "I") (List.mem_of_getElem? (i := 2) rfl)) (fun _ h9 => h9) rfl dX6_counted_61 ?_
    exact W.iret (v := (nI sm)) hx hb hr (fun t ht hW => ⟨⟨_, (), rfl, rfl, (by show moZ E g th sv sm tx ln ai wr dg nb va se rc (t.heap); rw [ht]; exact ⟨_, _, _, hP, hrv⟩)⟩, hS.F ht⟩) hS.2.2 dX6_counted_64
set_option maxHeartbeats 4000000 in
set_option maxRecDepth 100000 in
theorem c_X6_toldOfMix (l : Launch) (E : wE) (g : Nat → Nat) (th : Int32) (aa sv : Nat → Int32) (sm : Nat) (tx : Nat → Int32) (ln : Nat) (ro : Nat → Int32) (ai : Nat) (wr : Bool) (dg : Int64) (nb : Nat) (va : Nat → Int32) (se : Int32) (rv : Nat → Nat → Int32) (k0 j : Nat) (hk0 : k0 < 10000) (hj3 : j < 3) (hnb2 : 2 ≤ nb) (hnb : nb ≤ 12) : Met l yX6_toldOfMix wsX6_toldOfMix ({ frames := 2, cells := 0, slots := 0, locals := 46 }) (va_Pc [.ref ((g 0)), .int (nI k0), .int (nI j)] (wS E 6 g (wP E 6 g (moF E g th (mdE nb va se rv) aa sv sm tx ln ro ai wr dg)))) (va_Qi (fun (r : Int32) (_ : Unit) => r = (if j = 0 then nI (pc (mskM nb k0)) else if j = 1 then nI (mskM nb k0) else vlM nb va (mskM nb k0))) (fun _ t => True) wN) 0 0 wN := by
  refine Met.ofW (cc := cX6_toldOfMix) (maxL := 4) (ret := (some .int)) (by decide) rfl ?_
  intro p e s m args below meth c s₁ B hml hv
  obtain ⟨rfl, hP, hK, hI⟩ := hv
  have hx := B.exec
  have hb := B.bytes
  have hr := B.returns
  have hts := atoms_spec (ws := wsX6_toldOfMix) B.pre
  have hown : s.vm.findClass RX6 = some m.cls := findClass_of_methodNamed B.named
  have hlocks := B.notSynchronized
  have hS : va_S wN s.heap s.heap [] := va_S.rf
  have hl := lv_entry ([.ref ((g 0)), .int (nI k0), .int (nI j)]) (n := 4) (Nat.le_of_ble_eq_true rfl)
  rw [lg_entry_eq]
  generalize (lg_sl ([.ref ((g 0)), .int (nI k0), .int (nI j)]) ++ List.replicate (4 - (lg_sl ([.ref ((g 0)), .int (nI k0), .int (nI j)])).length) Slot.unset).toArray = ls at hl ⊢
  have hl : lv_has ls 4 [(0, .ref ((g 0))), (1, .int (nI k0)), (2, .int (nI j))] := hl
  refine lv_aload_n hx hb dX6_toldOfMix_0 rfl (lv_at hl 0 rfl) ?_
  refine lv_iload_n hx hb dX6_toldOfMix_1 rfl (lv_at hl 1 rfl) ?_
  refine va_calli (va_runV (As := [.int (nI k0)]) (rest := []) ⟨hx, hb, hml, hown, hts⟩ (c_X6_maskOf l E g th aa sv sm tx ln ro ai wr dg nb va se rv k0 (by omega) hnb2 hnb) (cwV 1 hts gX6_toldOfMix_X6_maskOf rfl rfl rfl (by decide +kernel) ⟨Nat.le_of_ble_eq_true rfl, Nat.le_of_ble_eq_true rfl⟩) ⟨wS.blind, (w_recv hK hP 0 (by decide) rfl (ci := 6) rfl), fun U hU hW => wS.go hP hK hI hU hW⟩ rfl rfl hl.1 rfl (lv_room (Nat.le_of_ble_eq_true rfl)) dX6_toldOfMix_2 ⟨Nat.zero_le _, Nat.zero_le _⟩) hS (fun q _ h => h.elim) (fun q h => h.elim) (fun r_1 uu t H_1 locs_1 ht hvm hw hB hz1 hk1 hS => ?_)
  have hP := hP.same hk1
  have hml_1 : mskM nb k0 < 4096 := Nat.lt_of_lt_of_le (mskM_lt (by omega) k0) (pow_nb hnb)
  obtain rfl : r_1 = (nI (mskM nb k0)) := hw
  refine lv_istore_n (lv' := [(3, .int ((nI (mskM nb k0)))), (0, .ref ((g 0))), (1, .int (nI k0)), (2, .int (nI j))]) hx hb dX6_toldOfMix_5 rfl hl (by decide) rfl (fun ls hl => ?_)
  refine lv_iload_n hx hb dX6_toldOfMix_6 rfl (lv_at hl 3 rfl) ?_
  refine lv_if_ne (tgt := 17) hx hb dX6_toldOfMix_7 (by decide) (fun c_2 => ?_) (fun c_2 => ?_)
  · have n_2 : ¬ (j = 0) := fun z => c_2 ((nI_eq (a := j) (b := 0) (by omega) (by omega)).mpr z)
    refine lv_iload_n hx hb dX6_toldOfMix_17 rfl (lv_at hl 3 rfl) ?_
    refine lv_iconst (v := 1) hx hb dX6_toldOfMix_18 (by decide) ?_
    refine lv_icmp_ne (tgt := 26) hx hb dX6_toldOfMix_19 (by decide) (fun c_3 => ?_) (fun c_3 => ?_)
    · have n_3 : ¬ (j = 1) := fun z => c_3 ((nI_eq (a := j) (b := 1) (by omega) (by omega)).mpr z)
      refine lv_aload_n hx hb dX6_toldOfMix_26 rfl (lv_at hl 1 rfl) ?_
      refine lv_iload_n hx hb dX6_toldOfMix_27 rfl (lv_at hl 0 rfl) ?_
      refine va_calli (va_runV (As := [.int ((nI (mskM nb k0)))]) (rest := []) ⟨hx, hb, hml, hown, hts⟩ (c_X6_valueOf l E g th aa sv sm tx ln ro ai wr dg nb va se rv (mskM nb k0) (by omega) hnb) (cwV 1 hts gX6_toldOfMix_X6_valueOf rfl rfl rfl (by decide +kernel) ⟨Nat.le_of_ble_eq_true rfl, Nat.le_of_ble_eq_true rfl⟩) ⟨wS.blind, (w_recv hK hP 0 (by decide) rfl (ci := 6) rfl), fun U hU hW => wS.go hP hK hI hU hW⟩ rfl rfl hl.1 rfl (lv_room (Nat.le_of_ble_eq_true rfl)) dX6_toldOfMix_28 ⟨Nat.zero_le _, Nat.zero_le _⟩) hS (fun q _ h => h.elim) (fun q h => h.elim) (fun r_4 uu t H_4 locs_4 ht hvm hw hB hz1 hk1 hS => ?_)
      have hP := hP.same hk1
      obtain rfl : r_4 = (vlM nb va (mskM nb k0)) := hw
      exact W.iret (v := (vlM nb va (mskM nb k0))) hx hb hr (fun t ht hW => ⟨⟨_, (), rfl, (by show _ = _; rw [if_neg n_2, if_neg n_3]), trivial⟩, hS.F ht⟩) hS.2.2 dX6_toldOfMix_31
    · have n_3 : j = 1 := (nI_eq (a := j) (b := 1) (by omega) (by omega)).mp c_3
      refine lv_iload_n hx hb dX6_toldOfMix_22 rfl (lv_at hl 0 rfl) ?_
      refine lv_goto (tgt := 31) hx hb dX6_toldOfMix_23 (by decide) ?_
      exact W.iret (v := (nI (mskM nb k0))) hx hb hr (fun t ht hW => ⟨⟨_, (), rfl, (by show _ = _; rw [if_neg n_2, if_pos n_3]), trivial⟩, hS.F ht⟩) hS.2.2 dX6_toldOfMix_31
  · have n_2 : j = 0 := (nI_eq (a := j) (b := 0) (by omega) (by omega)).mp c_2
    refine lv_iload_n hx hb dX6_toldOfMix_10 rfl (lv_at hl 0 rfl) ?_
    refine va_calli (va_runS (As := [.int ((nI (mskM nb k0)))]) (rest := []) ⟨hx, hb, hml, hown, hts⟩ (c_X6_bits l (mskM nb k0) (by omega)) (va_cwS 1 hts gX6_toldOfMix_X6_bits rfl rfl rfl (by decide +kernel) ⟨Nat.le_of_ble_eq_true rfl, Nat.le_of_ble_eq_true rfl⟩) ⟨wU_blind, fun U hU hW => ⟨rfl, trivial⟩⟩ rfl rfl hl.1 rfl (lv_room (Nat.le_of_ble_eq_true rfl)) dX6_toldOfMix_11 ⟨Nat.zero_le _, Nat.zero_le _⟩) hS (fun q _ h => h.elim) (fun q h => h.elim) (fun r_6 uu t H_6 locs_6 ht hvm hw hB hz1 hk1 hS => ?_)
    have hP := hP.same hk1
    have hpl_5 := pc_le (mskM nb k0)
    obtain rfl : r_6 = (nI (pc (mskM nb k0))) := hw
    refine lv_goto (tgt := 31) hx hb dX6_toldOfMix_14 (by decide) ?_
    exact W.iret (v := (nI (pc (mskM nb k0)))) hx hb hr (fun t ht hW => ⟨⟨_, (), rfl, (by show _ = _; rw [if_pos n_2]), trivial⟩, hS.F ht⟩) hS.2.2 dX6_toldOfMix_31
