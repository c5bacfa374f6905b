set_option maxHeartbeats 4000000 in
set_option maxRecDepth 100000 in
theorem c_X6_mix_ok (l : Launch) (E : wE) (g : Nat → Nat) (th : Int32) (ln : Nat) (tx : Nat → Int32) (nb : Nat) (va : Nat → Int32) (se : Int32) (rc : Nat → MR) (ke : Nat) (hs : Nat → MS) (k0 j : Nat) (hk0 : k0 < 10000) (hj3 : j < 3) : Met l yX6_mix wsX6_mix ({ frames := 3, cells := 0, slots := 0, locals := 69 }) (va_Pc [.ref ((g 0)), .int (nI k0), .int (nI j)] (wS E 6 g (MOB E g th ln tx nb va se rc ke hs))) (va_Qi (fun (r : Int32) (_ : Unit) => r = (if j = 0 then nI (pc (mskM nb k0)) else if j = 1 then nI (mskM nb k0) else vlM nb va (mskM nb k0))) (fun _ t => MOB E g 0 ln tx nb va se rc ke hs (t.heap)) (wF 6 g)) 0 0 (wF 6 g) := by
  refine Met.ofW (cc := cX6_mix) (maxL := 3) (ret := (some .int)) (by decide) rfl ?_
  intro p e s m args below meth c s₁ B hml hv
  obtain ⟨rfl, ⟨sv, ai, wr, dg, ⟨aa, ro, rv, hP, hrv⟩, hsv, hke, hln, hnb2, hnb⟩, hK, hI⟩ := hv
  have hx := B.exec
  have hb := B.bytes
  have hr := B.returns
  have hts := atoms_spec (ws := wsX6_mix) B.pre
  have hown : s.vm.findClass RX6 = some m.cls := findClass_of_methodNamed B.named
  have hlocks := B.notSynchronized
  have hS : va_S (wF 6 g) s.heap s.heap [] := va_S.rf
  have hA : ∀ k, k < 6 → (wF 6 g) (g k) := wF_in
  have hl := lv_entry ([.ref ((g 0)), .int (nI k0), .int (nI j)]) (n := 3) (Nat.le_of_ble_eq_true rfl)
  rw [lg_entry_eq]
  generalize (lg_sl ([.ref ((g 0)), .int (nI k0), .int (nI j)]) ++ List.replicate (3 - (lg_sl ([.ref ((g 0)), .int (nI k0), .int (nI j)])).length) Slot.unset).toArray = ls at hl ⊢
  have hl : lv_has ls 3 [(0, .ref ((g 0))), (1, .int (nI k0)), (2, .int (nI j))] := hl
  have hbN := hnb
  have hB1 : inB (nI k0) 0 9999 = true := inB_t (n := k0) (a := 0) (b := 9999) rfl rfl rfl (by omega) (by omega) (by omega)
  have hB2 : inB (nI j) 0 2 = true := inB_t (n := j) (a := 0) (b := 2) rfl rfl rfl (by omega) (by omega) (by omega)
  refine lv_aload_n hx hb dX6_mix_0 rfl (lv_at hl 0 rfl) ?_
  refine lv_iload_n hx hb dX6_mix_1 rfl (lv_at hl 1 rfl) ?_
  refine va_calli (va_runS (As := [.int (nI k0)]) (rest := [.ref ((g 0))]) ⟨hx, hb, hml, hown, hts⟩ (c_X6_isMix l (nI k0)) (va_cwS 1 hts gX6_mix_X6_isMix rfl rfl rfl (by decide +kernel) ⟨Nat.le_of_ble_eq_true rfl, Nat.le_of_ble_eq_true rfl⟩) ⟨wU_blind, fun U hU hW => ⟨rfl, trivial⟩⟩ rfl rfl hl.1 rfl (lv_room (Nat.le_of_ble_eq_true rfl)) dX6_mix_2 ⟨Nat.zero_le _, Nat.zero_le _⟩) hS (fun q _ h => h.elim) (fun q h => h.elim) (fun r_1 uu t H_1 locs_1 ht hvm hw hB hz1 hk1 hS => ?_)
  have hP := hP.same hk1
  obtain rfl : r_1 = (bI (inB (nI k0) 0 9999)) := hw
  refine lv_if_eq (tgt := 21) hx hb dX6_mix_5 (by decide) (fun c_2 => ?_) (fun c_2 => ?_)
  · rw [hB1] at c_2; exact absurd c_2 (by decide)
  · refine lv_iload_n hx hb dX6_mix_8 rfl (lv_at hl 2 rfl) ?_
    refine lv_iconst (v := 0) hx hb dX6_mix_9 (by decide) ?_
    refine lv_iconst (v := 2) hx hb dX6_mix_10 (by decide) ?_
    refine va_calli (va_runS (As := [.int (nI j), .int 0, .int 2]) (rest := [.ref ((g 0))]) ⟨hx, hb, hml, hown, hts⟩ (c_X6_in l (nI j) 0 2) (va_cwS 3 hts gX6_mix_X6_in rfl rfl rfl (by decide +kernel) ⟨Nat.le_of_ble_eq_true rfl, Nat.le_of_ble_eq_true rfl⟩) ⟨wU_blind, fun U hU hW => ⟨rfl, trivial⟩⟩ rfl rfl hl.1 rfl (lv_room (Nat.le_of_ble_eq_true rfl)) dX6_mix_11 ⟨Nat.zero_le _, Nat.zero_le _⟩) hS (fun q _ h => h.elim) (fun q h => h.elim) (fun r_3 uu t H_3 locs_3 ht hvm hw hB hz1 hk1 hS => ?_)
    have hP := hP.same hk1
    obtain rfl : r_3 = (bI (inB (nI j) 0 2)) := hw
    refine lv_if_eq (tgt := 21) hx hb dX6_mix_14 (by decide) (fun c_4 => ?_) (fun c_4 => ?_)
    · rw [hB2] at c_4; exact absurd c_4 (by decide)
    · refine lv_iconst (v := 0) hx hb dX6_mix_17 (by decide) ?_
      refine lv_goto (tgt := 22) hx hb dX6_mix_18 (by decide) ?_
      refine va_calli (va_runV (As := [.int 0]) (rest := []) ⟨hx, hb, hml, hown, hts⟩ (c_X6_holds l E g (mdE nb va se rv) th aa sv ke tx ln ro ai wr dg 0) (cwV 1 hts gX6_mix_X6_holds rfl rfl rfl (by decide +kernel) ⟨Nat.le_of_ble_eq_true rfl, Nat.le_of_ble_eq_true rfl⟩) ⟨wS.blind, (w_recv hK hP 0 (by decide) rfl (ci := 6) rfl), fun U hU hW => wS.go hP hK hI hU hW⟩ rfl rfl hl.1 rfl (lv_room (Nat.le_of_ble_eq_true rfl)) dX6_mix_22 ⟨Nat.zero_le _, Nat.zero_le _⟩) hS (fun q _ h => h) (fun q h => h) (fun r_5 uu t H_5 locs_5 ht hvm hw hB hz1 hk1 hS => ?_)
      rw [ht] at hB
      have hP : wP E 6 g (moF E g 0 (mdE nb va se rv) aa sv ke tx ln ro ai wr dg) H_5 := hB
      obtain rfl : r_5 = 1 := hw
      refine lv_if_eq (tgt := 37) hx hb dX6_mix_25 (by decide) (fun c_6 => ?_) (fun c_6 => ?_)
      · exact absurd c_6 (by decide)
      · refine lv_aload_n hx hb dX6_mix_28 rfl (lv_at hl 0 rfl) ?_
        refine lv_iload_n hx hb dX6_mix_29 rfl (lv_at hl 1 rfl) ?_
        refine lv_iload_n hx hb dX6_mix_30 rfl (lv_at hl 2 rfl) ?_
        refine va_calli (va_runV (As := [.int (nI k0), .int (nI j)]) (rest := []) ⟨hx, hb, hml, hown, hts⟩ (c_X6_toldOfMix l E g 0 aa sv ke tx ln ro ai wr dg nb va se rv k0 j (by omega) (by omega) hnb2 hnb) (cwV 2 hts gX6_mix_X6_toldOfMix rfl rfl rfl (by decide +kernel) ⟨Nat.le_of_ble_eq_true rfl, Nat.le_of_ble_eq_true rfl⟩) ⟨wS.blind, (w_recv hK hP 0 (by decide) rfl (ci := 6) rfl), fun U hU hW => wS.go hP hK hI hU hW⟩ rfl rfl hl.1 rfl (lv_room (Nat.le_of_ble_eq_true rfl)) dX6_mix_31 ⟨Nat.zero_le _, Nat.zero_le _⟩) hS (fun q _ h => h.elim) (fun q h => h.elim) (fun r_7 uu t H_7 locs_7 ht hvm hw hB hz1 hk1 hS => ?_)
        have hP := hP.same hk1
        obtain rfl : r_7 = (if j = 0 then nI (pc (mskM nb k0)) else if j = 1 then nI (mskM nb k0) else vlM nb va (mskM nb k0)) := hw
        refine lv_goto (tgt := 38) hx hb dX6_mix_34 (by decide) ?_
        exact W.iret (v := (if j = 0 then nI (pc (mskM nb k0)) else if j = 1 then nI (mskM nb k0) else vlM nb va (mskM nb k0))) hx hb hr (fun t ht hW => ⟨⟨_, (), rfl, rfl, (by show MOB E g 0 ln tx nb va se rc ke hs (t.heap); rw [ht]; exact ⟨sv, _, _, _, ⟨_, _, _, hP, hrv⟩, hsv, hke, hln, hnb2, hnb⟩)⟩, hS.F ht⟩) hS.2.2 dX6_mix_38
set_option maxHeartbeats 4000000 in
set_option maxRecDepth 100000 in
theorem c_X6_mix_no1 (l : Launch) (E : wE) (g : Nat → Nat) (th : Int32) (ln : Nat) (tx : Nat → Int32) (nb : Nat) (va : Nat → Int32) (se : Int32) (rc : Nat → MR) (ke : Nat) (hs : Nat → MS) (x y : Int32) (hB1 : inB x 0 9999 = false) : Met l yX6_mix wsX6_mix ({ frames := 3, cells := 0, slots := 0, locals := 69 }) (va_Pc [.ref ((g 0)), .int x, .int y] (wS E 6 g (MOB E g th ln tx nb va se rc ke hs))) (va_Qi (fun (r : Int32) (_ : Unit) => r = 0) (fun _ t => MOB E g 1 ln tx nb va se rc ke hs (t.heap)) (wF 6 g)) 0 0 (wF 6 g) := by
  refine Met.ofW (cc := cX6_mix) (maxL := 3) (ret := (some .int)) (by decide) rfl ?_
  intro p e s m args below meth c s₁ B hml hv
  obtain ⟨rfl, ⟨sv, ai, wr, dg, ⟨aa, ro, rv, hP, hrv⟩, hsv, hke, hln, hnb2, hnb⟩, hK, hI⟩ := hv
  have hx := B.exec
  have hb := B.bytes
  have hr := B.returns
  have hts := atoms_spec (ws := wsX6_mix) B.pre
  have hown : s.vm.findClass RX6 = some m.cls := findClass_of_methodNamed B.named
  have hlocks := B.notSynchronized
  have hS : va_S (wF 6 g) s.heap s.heap [] := va_S.rf
  have hA : ∀ k, k < 6 → (wF 6 g) (g k) := wF_in
  have hl := lv_entry ([.ref ((g 0)), .int x, .int y]) (n := 3) (Nat.le_of_ble_eq_true rfl)
  rw [lg_entry_eq]
  generalize (lg_sl ([.ref ((g 0)), .int x, .int y]) ++ List.replicate (3 - (lg_sl ([.ref ((g 0)), .int x, .int y])).length) Slot.unset).toArray = ls at hl ⊢
  have hl : lv_has ls 3 [(0, .ref ((g 0))), (1, .int x), (2, .int y)] := hl
  have hbN := hnb
  refine lv_aload_n hx hb dX6_mix_0 rfl (lv_at hl 0 rfl) ?_
  refine lv_iload_n hx hb dX6_mix_1 rfl (lv_at hl 1 rfl) ?_
  refine va_calli (va_runS (As := [.int x]) (rest := [.ref ((g 0))]) ⟨hx, hb, hml, hown, hts⟩ (c_X6_isMix l x) (va_cwS 1 hts gX6_mix_X6_isMix rfl rfl rfl (by decide +kernel) ⟨Nat.le_of_ble_eq_true rfl, Nat.le_of_ble_eq_true rfl⟩) ⟨wU_blind, fun U hU hW => ⟨rfl, trivial⟩⟩ rfl rfl hl.1 rfl (lv_room (Nat.le_of_ble_eq_true rfl)) dX6_mix_2 ⟨Nat.zero_le _, Nat.zero_le _⟩) hS (fun q _ h => h.elim) (fun q h => h.elim) (fun r_1 uu t H_1 locs_1 ht hvm hw hB hz1 hk1 hS => ?_)
  have hP := hP.same hk1
  obtain rfl : r_1 = (bI (inB x 0 9999)) := hw
  refine lv_if_eq (tgt := 21) hx hb dX6_mix_5 (by decide) (fun c_2 => ?_) (fun c_2 => ?_)
  · refine lv_iconst (v := 1) hx hb dX6_mix_21 (by decide) ?_
    refine va_calli (va_runV (As := [.int 1]) (rest := []) ⟨hx, hb, hml, hown, hts⟩ (c_X6_holds l E g (mdE nb va se rv) th aa sv ke tx ln ro ai wr dg 1) (cwV 1 hts gX6_mix_X6_holds rfl rfl rfl (by decide +kernel) ⟨Nat.le_of_ble_eq_true rfl, Nat.le_of_ble_eq_true rfl⟩) ⟨wS.blind, (w_recv hK hP 0 (by decide) rfl (ci := 6) rfl), fun U hU hW => wS.go hP hK hI hU hW⟩ rfl rfl hl.1 rfl (lv_room (Nat.le_of_ble_eq_true rfl)) dX6_mix_22 ⟨Nat.zero_le _, Nat.zero_le _⟩) hS (fun q _ h => h) (fun q h => h) (fun r_3 uu t H_3 locs_3 ht hvm hw hB hz1 hk1 hS => ?_)
    rw [ht] at hB
    have hP : wP E 6 g (moF E g 1 (mdE nb va se rv) aa sv ke tx ln ro ai wr dg) H_3 := hB
    obtain rfl : r_3 = 0 := hw
    refine lv_if_eq (tgt := 37) hx hb dX6_mix_25 (by decide) (fun c_4 => ?_) (fun c_4 => ?_)
    · refine lv_iconst (v := 0) hx hb dX6_mix_37 (by decide) ?_
      exact W.iret (v := 0) hx hb hr (fun t ht hW => ⟨⟨_, (), rfl, rfl, (by show MOB E g 1 ln tx nb va se rc ke hs (t.heap); rw [ht]; exact ⟨sv, _, _, _, ⟨_, _, _, hP, hrv⟩, hsv, hke, hln, hnb2, hnb⟩)⟩, hS.F ht⟩) hS.2.2 dX6_mix_38
    · exact absurd rfl c_4
  · rw [hB1] at c_2; exact absurd rfl c_2
set_option maxHeartbeats 4000000 in
set_option maxRecDepth 100000 in
theorem c_X6_mix_no2 (l : Launch) (E : wE) (g : Nat → Nat) (th : Int32) (ln : Nat) (tx : Nat → Int32) (nb : Nat) (va : Nat → Int32) (se : Int32) (rc : Nat → MR) (ke : Nat) (hs : Nat → MS) (x y : Int32) (hB1 : inB x 0 9999 = true) (hB2 : inB y 0 2 = false) : Met l yX6_mix wsX6_mix ({ frames := 3, cells := 0, slots := 0, locals := 69 }) (va_Pc [.ref ((g 0)), .int x, .int y] (wS E 6 g (MOB E g th ln tx nb va se rc ke hs))) (va_Qi (fun (r : Int32) (_ : Unit) => r = 0) (fun _ t => MOB E g 1 ln tx nb va se rc ke hs (t.heap)) (wF 6 g)) 0 0 (wF 6 g) := by
  refine Met.ofW (cc := cX6_mix) (maxL := 3) (ret := (some .int)) (by decide) rfl ?_
  intro p e s m args below meth c s₁ B hml hv
  obtain ⟨rfl, ⟨sv, ai, wr, dg, ⟨aa, ro, rv, hP, hrv⟩, hsv, hke, hln, hnb2, hnb⟩, hK, hI⟩ := hv
  have hx := B.exec
  have hb := B.bytes
  have hr := B.returns
  have hts := atoms_spec (ws := wsX6_mix) B.pre
  have hown : s.vm.findClass RX6 = some m.cls := findClass_of_methodNamed B.named
  have hlocks := B.notSynchronized
  have hS : va_S (wF 6 g) s.heap s.heap [] := va_S.rf
  have hA : ∀ k, k < 6 → (wF 6 g) (g k) := wF_in
  have hl := lv_entry ([.ref ((g 0)), .int x, .int y]) (n := 3) (Nat.le_of_ble_eq_true rfl)
  rw [lg_entry_eq]
  generalize (lg_sl ([.ref ((g 0)), .int x, .int y]) ++ List.replicate (3 - (lg_sl ([.ref ((g 0)), .int x, .int y])).length) Slot.unset).toArray = ls at hl ⊢
  have hl : lv_has ls 3 [(0, .ref ((g 0))), (1, .int x), (2, .int y)] := hl
  have hbN := hnb
  refine lv_aload_n hx hb dX6_mix_0 rfl (lv_at hl 0 rfl) ?_
  refine lv_iload_n hx hb dX6_mix_1 rfl (lv_at hl 1 rfl) ?_
  refine va_calli (va_runS (As := [.int x]) (rest := [.ref ((g 0))]) ⟨hx, hb, hml, hown, hts⟩ (c_X6_isMix l x) (va_cwS 1 hts gX6_mix_X6_isMix rfl rfl rfl (by decide +kernel) ⟨Nat.le_of_ble_eq_true rfl, Nat.le_of_ble_eq_true rfl⟩) ⟨wU_blind, fun U hU hW => ⟨rfl, trivial⟩⟩ rfl rfl hl.1 rfl (lv_room (Nat.le_of_ble_eq_true rfl)) dX6_mix_2 ⟨Nat.zero_le _, Nat.zero_le _⟩) hS (fun q _ h => h.elim) (fun q h => h.elim) (fun r_1 uu t H_1 locs_1 ht hvm hw hB hz1 hk1 hS => ?_)
  have hP := hP.same hk1
  obtain rfl : r_1 = (bI (inB x 0 9999)) := hw
  refine lv_if_eq (tgt := 21) hx hb dX6_mix_5 (by decide) (fun c_2 => ?_) (fun c_2 => ?_)
  · rw [hB1] at c_2; exact absurd c_2 (by decide)
  · refine lv_iload_n hx hb dX6_mix_8 rfl (lv_at hl 2 rfl) ?_
    refine lv_iconst (v := 0) hx hb dX6_mix_9 (by decide) ?_
    refine lv_iconst (v := 2) hx hb dX6_mix_10 (by decide) ?_
    refine va_calli (va_runS (As := [.int y, .int 0, .int 2]) (rest := [.ref ((g 0))]) ⟨hx, hb, hml, hown, hts⟩ (c_X6_in l y 0 2) (va_cwS 3 hts gX6_mix_X6_in rfl rfl rfl (by decide +kernel) ⟨Nat.le_of_ble_eq_true rfl, Nat.le_of_ble_eq_true rfl⟩) ⟨wU_blind, fun U hU hW => ⟨rfl, trivial⟩⟩ rfl rfl hl.1 rfl (lv_room (Nat.le_of_ble_eq_true rfl)) dX6_mix_11 ⟨Nat.zero_le _, Nat.zero_le _⟩) hS (fun q _ h => h.elim) (fun q h => h.elim) (fun r_3 uu t H_3 locs_3 ht hvm hw hB hz1 hk1 hS => ?_)
    have hP := hP.same hk1
    obtain rfl : r_3 = (bI (inB y 0 2)) := hw
    refine lv_if_eq (tgt := 21) hx hb dX6_mix_14 (by decide) (fun c_4 => ?_) (fun c_4 => ?_)
    · refine lv_iconst (v := 1) hx hb dX6_mix_21 (by decide) ?_
      refine va_calli (va_runV (As := [.int 1]) (rest := []) ⟨hx, hb, hml, hown, hts⟩ (c_X6_holds l E g (mdE nb va se rv) th aa sv ke tx ln ro ai wr dg 1) (cwV 1 hts gX6_mix_X6_holds rfl rfl rfl (by decide +kernel) ⟨Nat.le_of_ble_eq_true rfl, Nat.le_of_ble_eq_true rfl⟩) ⟨wS.blind, (w_recv hK hP 0 (by decide) rfl (ci := 6) rfl), fun U hU hW => wS.go hP hK hI hU hW⟩ rfl rfl hl.1 rfl (lv_room (Nat.le_of_ble_eq_true rfl)) dX6_mix_22 ⟨Nat.zero_le _, Nat.zero_le _⟩) hS (fun q _ h => h) (fun q h => h) (fun r_5 uu t H_5 locs_5 ht hvm hw hB hz1 hk1 hS => ?_)
      rw [ht] at hB
      have hP : wP E 6 g (moF E g 1 (mdE nb va se rv) aa sv ke tx ln ro ai wr dg) H_5 := hB
      obtain rfl : r_5 = 0 := hw
      refine lv_if_eq (tgt := 37) hx hb dX6_mix_25 (by decide) (fun c_6 => ?_) (fun c_6 => ?_)
      · refine lv_iconst (v := 0) hx hb dX6_mix_37 (by decide) ?_
        exact W.iret (v := 0) hx hb hr (fun t ht hW => ⟨⟨_, (), rfl, rfl, (by show MOB E g 1 ln tx nb va se rc ke hs (t.heap); rw [ht]; exact ⟨sv, _, _, _, ⟨_, _, _, hP, hrv⟩, hsv, hke, hln, hnb2, hnb⟩)⟩, hS.F ht⟩) hS.2.2 dX6_mix_38
      · exact absurd rfl c_6
    · rw [hB2] at c_4; exact absurd rfl c_4
set_option maxHeartbeats 4000000 in
set_option maxRecDepth 100000 in
theorem c_X6_receiver_ok (l : Launch) (E : wE) (g : Nat → Nat) (th : Int32) (ln : Nat) (tx : Nat → Int32) (nb : Nat) (va : Nat → Int32) (se : Int32) (rc : Nat → MR) (ke : Nat) (hs : Nat → MS) (u : Nat) (hu3 : u < 3) (j : Nat) (hj9 : j < 9) : Met l yX6_receiver wsX6_receiver ({ frames := 4, cells := 0, slots := 0, locals := 89 }) (va_Pc [.ref ((g 0)), .int (nI u), .int (nI j)] (wS E 6 g (MOB E g th ln tx nb va se rc ke hs))) (va_Qi (fun (r : Int32) (_ : Unit) => r = numM nb (rc u) j) (fun _ t => MOB E g 0 ln tx nb va se rc ke hs (t.heap)) (wF 6 g)) 0 0 (wF 6 g) := by
  refine Met.ofW (cc := cX6_receiver) (maxL := 3) (ret := (some .int)) (by decide) rfl ?_
  intro p e s m args below meth c s₁ B hml hv
  obtain ⟨rfl, ⟨sv, ai, wr, dg, ⟨aa, ro, rv, hP, hrv⟩, hsv, hke, hln, hnb2, hnb⟩, hK, hI⟩ := hv
  have hx := B.exec
  have hb := B.bytes
  have hr := B.returns
  have hts := atoms_spec (ws := wsX6_receiver) B.pre
  have hown : s.vm.findClass RX6 = some m.cls := findClass_of_methodNamed B.named
  have hlocks := B.notSynchronized
  have hS : va_S (wF 6 g) s.heap s.heap [] := va_S.rf
  have hA : ∀ k, k < 6 → (wF 6 g) (g k) := wF_in
  have hl := lv_entry ([.ref ((g 0)), .int (nI u), .int (nI j)]) (n := 3) (Nat.le_of_ble_eq_true rfl)
  rw [lg_entry_eq]
  generalize (lg_sl ([.ref ((g 0)), .int (nI u), .int (nI j)]) ++ List.replicate (3 - (lg_sl ([.ref ((g 0)), .int (nI u), .int (nI j)])).length) Slot.unset).toArray = ls at hl ⊢
  have hl : lv_has ls 3 [(0, .ref ((g 0))), (1, .int (nI u)), (2, .int (nI j))] := hl
  have hbN := hnb
  have hB1 : inB (nI u) 0 2 = true := inB_t (n := u) (a := 0) (b := 2) rfl rfl rfl (by omega) (by omega) (by omega)
  have hB2 : inB (nI j) 0 8 = true := inB_t (n := j) (a := 0) (b := 8) rfl rfl rfl (by omega) (by omega) (by omega)
  refine lv_aload_n hx hb dX6_receiver_0 rfl (lv_at hl 0 rfl) ?_
  refine lv_iload_n hx hb dX6_receiver_1 rfl (lv_at hl 1 rfl) ?_
  refine va_calli (va_runS (As := [.int (nI u)]) (rest := [.ref ((g 0))]) ⟨hx, hb, hml, hown, hts⟩ (c_X6_isReceiver l (nI u)) (va_cwS 1 hts gX6_receiver_X6_isReceiver rfl rfl rfl (by decide +kernel) ⟨Nat.le_of_ble_eq_true rfl, Nat.le_of_ble_eq_true rfl⟩) ⟨wU_blind, fun U hU hW => ⟨rfl, trivial⟩⟩ rfl rfl hl.1 rfl (lv_room (Nat.le_of_ble_eq_true rfl)) dX6_receiver_2 ⟨Nat.zero_le _, Nat.zero_le _⟩) hS (fun q _ h => h.elim) (fun q h => h.elim) (fun r_1 uu t H_1 locs_1 ht hvm hw hB hz1 hk1 hS => ?_)
  have hP := hP.same hk1
  obtain rfl : r_1 = (bI (inB (nI u) 0 2)) := hw
  refine lv_if_ne (tgt := 12) hx hb dX6_receiver_5 (by decide) (fun c_2 => ?_) (fun c_2 => ?_)
  · refine lv_iload_n hx hb dX6_receiver_12 rfl (lv_at hl 2 rfl) ?_
    refine lv_iconst (v := 0) hx hb dX6_receiver_13 (by decide) ?_
    refine lv_bipush (v := 8) hx hb dX6_receiver_14 (by decide) ?_
    refine va_calli (va_runS (As := [.int (nI j), .int 0, .int 8]) (rest := [.ref ((g 0))]) ⟨hx, hb, hml, hown, hts⟩ (c_X6_in l (nI j) 0 8) (va_cwS 3 hts gX6_receiver_X6_in rfl rfl rfl (by decide +kernel) ⟨Nat.le_of_ble_eq_true rfl, Nat.le_of_ble_eq_true rfl⟩) ⟨wU_blind, fun U hU hW => ⟨rfl, trivial⟩⟩ rfl rfl hl.1 rfl (lv_room (Nat.le_of_ble_eq_true rfl)) dX6_receiver_16 ⟨Nat.zero_le _, Nat.zero_le _⟩) hS (fun q _ h => h.elim) (fun q h => h.elim) (fun r_3 uu t H_3 locs_3 ht hvm hw hB hz1 hk1 hS => ?_)
    have hP := hP.same hk1
    obtain rfl : r_3 = (bI (inB (nI j) 0 8)) := hw
    refine lv_if_ne (tgt := 26) hx hb dX6_receiver_19 (by decide) (fun c_4 => ?_) (fun c_4 => ?_)
    · refine lv_iconst (v := 0) hx hb dX6_receiver_26 (by decide) ?_
      refine va_calli (va_runV (As := [.int 0]) (rest := []) ⟨hx, hb, hml, hown, hts⟩ (c_X6_holds l E g (mdE nb va se rv) th aa sv ke tx ln ro ai wr dg 0) (cwV 1 hts gX6_receiver_X6_holds rfl rfl rfl (by decide +kernel) ⟨Nat.le_of_ble_eq_true rfl, Nat.le_of_ble_eq_true rfl⟩) ⟨wS.blind, (w_recv hK hP 0 (by decide) rfl (ci := 6) rfl), fun U hU hW => wS.go hP hK hI hU hW⟩ rfl rfl hl.1 rfl (lv_room (Nat.le_of_ble_eq_true rfl)) dX6_receiver_27 ⟨Nat.zero_le _, Nat.zero_le _⟩) hS (fun q _ h => h) (fun q h => h) (fun r_5 uu t H_5 locs_5 ht hvm hw hB hz1 hk1 hS => ?_)
      rw [ht] at hB
      have hP : wP E 6 g (moF E g 0 (mdE nb va se rv) aa sv ke tx ln ro ai wr dg) H_5 := hB
      obtain rfl : r_5 = 1 := hw
      refine lv_if_eq (tgt := 42) hx hb dX6_receiver_30 (by decide) (fun c_6 => ?_) (fun c_6 => ?_)
      · exact absurd c_6 (by decide)
      · refine lv_aload_n hx hb dX6_receiver_33 rfl (lv_at hl 0 rfl) ?_
        refine lv_iload_n hx hb dX6_receiver_34 rfl (lv_at hl 1 rfl) ?_
        refine lv_iload_n hx hb dX6_receiver_35 rfl (lv_at hl 2 rfl) ?_
        refine va_calli (va_runV (As := [.int (nI u), .int (nI j)]) (rest := []) ⟨hx, hb, hml, hown, hts⟩ (c_X6_told l E g 0 sv ke tx ln ai wr dg nb va se rc u (by omega) j (by omega) hnb) (cwV 2 hts gX6_receiver_X6_told rfl rfl rfl (by decide +kernel) ⟨Nat.le_of_ble_eq_true rfl, Nat.le_of_ble_eq_true rfl⟩) ⟨wS.blind, (w_recv hK hP 0 (by decide) rfl (ci := 6) rfl), fun U hU hW => wS.go ⟨_, _, _, hP, hrv⟩ hK hI hU hW⟩ rfl rfl hl.1 rfl (lv_room (Nat.le_of_ble_eq_true rfl)) dX6_receiver_36 ⟨Nat.zero_le _, Nat.zero_le _⟩) hS (fun q _ h => h) (fun q h => h) (fun r_7 uu t H_7 locs_7 ht hvm hw hB hz1 hk1 hS => ?_)
        rw [ht] at hB
        obtain ⟨aa_7, ro_7, rv_7, hP, hrv_7⟩ := hB
        have hP : wP E 6 g (moF E g 0 (mdE nb va se rv_7) aa_7 sv ke tx ln ro_7 ai wr dg) H_7 := hP
        obtain rfl : r_7 = (numM nb (rc u) j) := hw
        refine lv_goto (tgt := 43) hx hb dX6_receiver_39 (by decide) ?_
        exact W.iret (v := (numM nb (rc u) j)) hx hb hr (fun t ht hW => ⟨⟨_, (), rfl, rfl, (by show MOB E g 0 ln tx nb va se rc ke hs (t.heap); rw [ht]; exact ⟨sv, _, _, _, ⟨_, _, _, hP, hrv_7⟩, hsv, hke, hln, hnb2, hnb⟩)⟩, hS.F ht⟩) hS.2.2 dX6_receiver_43
    · rw [hB2] at c_4; exact absurd c_4 (by decide)
  · rw [hB1] at c_2; exact absurd c_2 (by decide)
set_option maxHeartbeats 4000000 in
set_option maxRecDepth 100000 in
theorem c_X6_receiver_no1 (l : Launch) (E : wE) (g : Nat → Nat) (th : Int32) (ln : Nat) (tx : Nat → Int32) (nb : Nat) (va : Nat → Int32) (se : Int32) (rc : Nat → MR) (ke : Nat) (hs : Nat → MS) (x y : Int32) (hB1 : inB x 0 2 = false) : Met l yX6_receiver wsX6_receiver ({ frames := 4, cells := 0, slots := 0, locals := 89 }) (va_Pc [.ref ((g 0)), .int x, .int y] (wS E 6 g (MOB E g th ln tx nb va se rc ke hs))) (va_Qi (fun (r : Int32) (_ : Unit) => r = 0) (fun _ t => MOB E g 1 ln tx nb va se rc ke hs (t.heap)) (wF 6 g)) 0 0 (wF 6 g) := by
  refine Met.ofW (cc := cX6_receiver) (maxL := 3) (ret := (some .int)) (by decide) rfl ?_
  intro p e s m args below meth c s₁ B hml hv
  obtain ⟨rfl, ⟨sv, ai, wr, dg, ⟨aa, ro, rv, hP, hrv⟩, hsv, hke, hln, hnb2, hnb⟩, hK, hI⟩ := hv
  have hx := B.exec
  have hb := B.bytes
  have hr := B.returns
  have hts := atoms_spec (ws := wsX6_receiver) B.pre
  have hown : s.vm.findClass RX6 = some m.cls := findClass_of_methodNamed B.named
  have hlocks := B.notSynchronized
  have hS : va_S (wF 6 g) s.heap s.heap [] := va_S.rf
  have hA : ∀ k, k < 6 → (wF 6 g) (g k) := wF_in
  have hl := lv_entry ([.ref ((g 0)), .int x, .int y]) (n := 3) (Nat.le_of_ble_eq_true rfl)
  rw [lg_entry_eq]
  generalize (lg_sl ([.ref ((g 0)), .int x, .int y]) ++ List.replicate (3 - (lg_sl ([.ref ((g 0)), .int x, .int y])).length) Slot.unset).toArray = ls at hl ⊢
  have hl : lv_has ls 3 [(0, .ref ((g 0))), (1, .int x), (2, .int y)] := hl
  have hbN := hnb
  refine lv_aload_n hx hb dX6_receiver_0 rfl (lv_at hl 0 rfl) ?_
  refine lv_iload_n hx hb dX6_receiver_1 rfl (lv_at hl 1 rfl) ?_
  refine va_calli (va_runS (As := [.int x]) (rest := [.ref ((g 0))]) ⟨hx, hb, hml, hown, hts⟩ (c_X6_isReceiver l x) (va_cwS 1 hts gX6_receiver_X6_isReceiver rfl rfl rfl (by decide +kernel) ⟨Nat.le_of_ble_eq_true rfl, Nat.le_of_ble_eq_true rfl⟩) ⟨wU_blind, fun U hU hW => ⟨rfl, trivial⟩⟩ rfl rfl hl.1 rfl (lv_room (Nat.le_of_ble_eq_true rfl)) dX6_receiver_2 ⟨Nat.zero_le _, Nat.zero_le _⟩) hS (fun q _ h => h.elim) (fun q h => h.elim) (fun r_1 uu t H_1 locs_1 ht hvm hw hB hz1 hk1 hS => ?_)
  have hP := hP.same hk1
  obtain rfl : r_1 = (bI (inB x 0 2)) := hw
  refine lv_if_ne (tgt := 12) hx hb dX6_receiver_5 (by decide) (fun c_2 => ?_) (fun c_2 => ?_)
  · rw [hB1] at c_2; exact absurd rfl c_2
  · refine lv_iconst (v := 1) hx hb dX6_receiver_8 (by decide) ?_
    refine lv_goto (tgt := 27) hx hb dX6_receiver_9 (by decide) ?_
    refine va_calli (va_runV (As := [.int 1]) (rest := []) ⟨hx, hb, hml, hown, hts⟩ (c_X6_holds l E g (mdE nb va se rv) th aa sv ke tx ln ro ai wr dg 1) (cwV 1 hts gX6_receiver_X6_holds rfl rfl rfl (by decide +kernel) ⟨Nat.le_of_ble_eq_true rfl, Nat.le_of_ble_eq_true rfl⟩) ⟨wS.blind, (w_recv hK hP 0 (by decide) rfl (ci := 6) rfl), fun U hU hW => wS.go hP hK hI hU hW⟩ rfl rfl hl.1 rfl (lv_room (Nat.le_of_ble_eq_true rfl)) dX6_receiver_27 ⟨Nat.zero_le _, Nat.zero_le _⟩) hS (fun q _ h => h) (fun q h => h) (fun r_3 uu t H_3 locs_3 ht hvm hw hB hz1 hk1 hS => ?_)
    rw [ht] at hB
    have hP : wP E 6 g (moF E g 1 (mdE nb va se rv) aa sv ke tx ln ro ai wr dg) H_3 := hB
    obtain rfl : r_3 = 0 := hw
    refine lv_if_eq (tgt := 42) hx hb dX6_receiver_30 (by decide) (fun c_4 => ?_) (fun c_4 => ?_)
    · refine lv_iconst (v := 0) hx hb dX6_receiver_42 (by decide) ?_
      exact W.iret (v := 0) hx hb hr (fun t ht hW => ⟨⟨_, (), rfl, rfl, (by show MOB E g 1 ln tx nb va se rc ke hs (t.heap); rw [ht]; exact ⟨sv, _, _, _, ⟨_, _, _, hP, hrv⟩, hsv, hke, hln, hnb2, hnb⟩)⟩, hS.F ht⟩) hS.2.2 dX6_receiver_43
    · exact absurd rfl c_4
set_option maxHeartbeats 4000000 in
set_option maxRecDepth 100000 in
theorem c_X6_receiver_no2 (l : Launch) (E : wE) (g : Nat → Nat) (th : Int32) (ln : Nat) (tx : Nat → Int32) (nb : Nat) (va : Nat → Int32) (se : Int32) (rc : Nat → MR) (ke : Nat) (hs : Nat → MS) (x y : Int32) (hB1 : inB x 0 2 = true) (hB2 : inB y 0 8 = false) : Met l yX6_receiver wsX6_receiver ({ frames := 4, cells := 0, slots := 0, locals := 89 }) (va_Pc [.ref ((g 0)), .int x, .int y] (wS E 6 g (MOB E g th ln tx nb va se rc ke hs))) (va_Qi (fun (r : Int32) (_ : Unit) => r = 0) (fun _ t => MOB E g 2 ln tx nb va se rc ke hs (t.heap)) (wF 6 g)) 0 0 (wF 6 g) := by
  refine Met.ofW (cc := cX6_receiver) (maxL := 3) (ret := (some .int)) (by decide) rfl ?_
  intro p e s m args below meth c s₁ B hml hv
  obtain ⟨rfl, ⟨sv, ai, wr, dg, ⟨aa, ro, rv, hP, hrv⟩, hsv, hke, hln, hnb2, hnb⟩, hK, hI⟩ := hv
  have hx := B.exec
  have hb := B.bytes
  have hr := B.returns
  have hts := atoms_spec (ws := wsX6_receiver) B.pre
  have hown : s.vm.findClass RX6 = some m.cls := findClass_of_methodNamed B.named
  have hlocks := B.notSynchronized
  have hS : va_S (wF 6 g) s.heap s.heap [] := va_S.rf
  have hA : ∀ k, k < 6 → (wF 6 g) (g k) := wF_in
  have hl := lv_entry ([.ref ((g 0)), .int x, .int y]) (n := 3) (Nat.le_of_ble_eq_true rfl)
  rw [lg_entry_eq]
  generalize (lg_sl ([.ref ((g 0)), .int x, .int y]) ++ List.replicate (3 - (lg_sl ([.ref ((g 0)), .int x, .int y])).length) Slot.unset).toArray = ls at hl ⊢
  have hl : lv_has ls 3 [(0, .ref ((g 0))), (1, .int x), (2, .int y)] := hl
  have hbN := hnb
  refine lv_aload_n hx hb dX6_receiver_0 rfl (lv_at hl 0 rfl) ?_
  refine lv_iload_n hx hb dX6_receiver_1 rfl (lv_at hl 1 rfl) ?_
  refine va_calli (va_runS (As := [.int x]) (rest := [.ref ((g 0))]) ⟨hx, hb, hml, hown, hts⟩ (c_X6_isReceiver l x) (va_cwS 1 hts gX6_receiver_X6_isReceiver rfl rfl rfl (by decide +kernel) ⟨Nat.le_of_ble_eq_true rfl, Nat.le_of_ble_eq_true rfl⟩) ⟨wU_blind, fun U hU hW => ⟨rfl, trivial⟩⟩ rfl rfl hl.1 rfl (lv_room (Nat.le_of_ble_eq_true rfl)) dX6_receiver_2 ⟨Nat.zero_le _, Nat.zero_le _⟩) hS (fun q _ h => h.elim) (fun q h => h.elim) (fun r_1 uu t H_1 locs_1 ht hvm hw hB hz1 hk1 hS => ?_)
  have hP := hP.same hk1
  obtain rfl : r_1 = (bI (inB x 0 2)) := hw
  refine lv_if_ne (tgt := 12) hx hb dX6_receiver_5 (by decide) (fun c_2 => ?_) (fun c_2 => ?_)
  · refine lv_iload_n hx hb dX6_receiver_12 rfl (lv_at hl 2 rfl) ?_
    refine lv_iconst (v := 0) hx hb dX6_receiver_13 (by decide) ?_
    refine lv_bipush (v := 8) hx hb dX6_receiver_14 (by decide) ?_
    refine va_calli (va_runS (As := [.int y, .int 0, .int 8]) (rest := [.ref ((g 0))]) ⟨hx, hb, hml, hown, hts⟩ (c_X6_in l y 0 8) (va_cwS 3 hts gX6_receiver_X6_in rfl rfl rfl (by decide +kernel) ⟨Nat.le_of_ble_eq_true rfl, Nat.le_of_ble_eq_true rfl⟩) ⟨wU_blind, fun U hU hW => ⟨rfl, trivial⟩⟩ rfl rfl hl.1 rfl (lv_room (Nat.le_of_ble_eq_true rfl)) dX6_receiver_16 ⟨Nat.zero_le _, Nat.zero_le _⟩) hS (fun q _ h => h.elim) (fun q h => h.elim) (fun r_3 uu t H_3 locs_3 ht hvm hw hB hz1 hk1 hS => ?_)
    have hP := hP.same hk1
    obtain rfl : r_3 = (bI (inB y 0 8)) := hw
    refine lv_if_ne (tgt := 26) hx hb dX6_receiver_19 (by decide) (fun c_4 => ?_) (fun c_4 => ?_)
    · rw [hB2] at c_4; exact absurd rfl c_4
    · refine lv_iconst (v := 2) hx hb dX6_receiver_22 (by decide) ?_
      refine lv_goto (tgt := 27) hx hb dX6_receiver_23 (by decide) ?_
      refine va_calli (va_runV (As := [.int 2]) (rest := []) ⟨hx, hb, hml, hown, hts⟩ (c_X6_holds l E g (mdE nb va se rv) th aa sv ke tx ln ro ai wr dg 2) (cwV 1 hts gX6_receiver_X6_holds rfl rfl rfl (by decide +kernel) ⟨Nat.le_of_ble_eq_true rfl, Nat.le_of_ble_eq_true rfl⟩) ⟨wS.blind, (w_recv hK hP 0 (by decide) rfl (ci := 6) rfl), fun U hU hW => wS.go hP hK hI hU hW⟩ rfl rfl hl.1 rfl (lv_room (Nat.le_of_ble_eq_true rfl)) dX6_receiver_27 ⟨Nat.zero_le _, Nat.zero_le _⟩) hS (fun q _ h => h) (fun q h => h) (fun r_5 uu t H_5 locs_5 ht hvm hw hB hz1 hk1 hS => ?_)
      rw [ht] at hB
      have hP : wP E 6 g (moF E g 2 (mdE nb va se rv) aa sv ke tx ln ro ai wr dg) H_5 := hB
      obtain rfl : r_5 = 0 := hw
      refine lv_if_eq (tgt := 42) hx hb dX6_receiver_30 (by decide) (fun c_6 => ?_) (fun c_6 => ?_)
      · refine lv_iconst (v := 0) hx hb dX6_receiver_42 (by decide) ?_
        exact W.iret (v := 0) hx hb hr (fun t ht hW => ⟨⟨_, (), rfl, rfl, (by show MOB E g 2 ln tx nb va se rc ke hs (t.heap); rw [ht]; exact ⟨sv, _, _, _, ⟨_, _, _, hP, hrv⟩, hsv, hke, hln, hnb2, hnb⟩)⟩, hS.F ht⟩) hS.2.2 dX6_receiver_43
      · exact absurd rfl c_6
  · rw [hB1] at c_2; exact absurd c_2 (by decide)
set_option maxHeartbeats 4000000 in
set_option maxRecDepth 100000 in
theorem c_X6_known_ok (l : Launch) (E : wE) (g : Nat → Nat) (th : Int32) (ln : Nat) (tx : Nat → Int32) (nb : Nat) (va : Nat → Int32) (se : Int32) (rc : Nat → MR) (ke : Nat) (hs : Nat → MS) (u : Nat) (hu3 : u < 3) (b : Nat) (hb9 : b < nb) : Met l yX6_known wsX6_known ({ frames := 2, cells := 0, slots := 0, locals := 43 }) (va_Pc [.ref ((g 0)), .int (nI u), .int (nI b)] (wS E 6 g (MOB E g th ln tx nb va se rc ke hs))) (va_Qi (fun (r : Int32) (_ : Unit) => r = (if (rc u).2.1.testBit b = true then va b else -1)) (fun _ t => MOB E g 0 ln tx nb va se rc ke hs (t.heap)) (wF 6 g)) 0 0 (wF 6 g) := by
  refine Met.ofW (cc := cX6_known) (maxL := 3) (ret := (some .int)) (by decide) rfl ?_
  intro p e s m args below meth c s₁ B hml hv
  obtain ⟨rfl, ⟨sv, ai, wr, dg, ⟨aa, ro, rv, hP, hrv⟩, hsv, hke, hln, hnb2, hnb⟩, hK, hI⟩ := hv
  have hx := B.exec
  have hb := B.bytes
  have hr := B.returns
  have hts := atoms_spec (ws := wsX6_known) B.pre
  have hown : s.vm.findClass RX6 = some m.cls := findClass_of_methodNamed B.named
  have hlocks := B.notSynchronized
  have hS : va_S (wF 6 g) s.heap s.heap [] := va_S.rf
  have hA : ∀ k, k < 6 → (wF 6 g) (g k) := wF_in
  have hl := lv_entry ([.ref ((g 0)), .int (nI u), .int (nI b)]) (n := 3) (Nat.le_of_ble_eq_true rfl)
  rw [lg_entry_eq]
  generalize (lg_sl ([.ref ((g 0)), .int (nI u), .int (nI b)]) ++ List.replicate (3 - (lg_sl ([.ref ((g 0)), .int (nI u), .int (nI b)])).length) Slot.unset).toArray = ls at hl ⊢
  have hl : lv_has ls 3 [(0, .ref ((g 0))), (1, .int (nI u)), (2, .int (nI b))] := hl
  have hbN := hnb
  have hB1 : inB (nI u) 0 2 = true := inB_t (n := u) (a := 0) (b := 2) rfl rfl rfl (by omega) (by omega) (by omega)
  have hB2 : inB (nI b) 0 (nI (nb - 1)) = true := inB_t (n := b) (a := 0) (b := (nb - 1)) rfl rfl rfl (by omega) (by omega) (by omega)
  refine lv_aload_n hx hb dX6_known_0 rfl (lv_at hl 0 rfl) ?_
  refine lv_iload_n hx hb dX6_known_1 rfl (lv_at hl 1 rfl) ?_
  refine va_calli (va_runS (As := [.int (nI u)]) (rest := [.ref ((g 0))]) ⟨hx, hb, hml, hown, hts⟩ (c_X6_isReceiver l (nI u)) (va_cwS 1 hts gX6_known_X6_isReceiver rfl rfl rfl (by decide +kernel) ⟨Nat.le_of_ble_eq_true rfl, Nat.le_of_ble_eq_true rfl⟩) ⟨wU_blind, fun U hU hW => ⟨rfl, trivial⟩⟩ rfl rfl hl.1 rfl (lv_room (Nat.le_of_ble_eq_true rfl)) dX6_known_2 ⟨Nat.zero_le _, Nat.zero_le _⟩) hS (fun q _ h => h.elim) (fun q h => h.elim) (fun r_1 uu t H_1 locs_1 ht hvm hw hB hz1 hk1 hS => ?_)
  have hP := hP.same hk1
  obtain rfl : r_1 = (bI (inB (nI u) 0 2)) := hw
  refine lv_if_eq (tgt := 20) hx hb dX6_known_5 (by decide) (fun c_2 => ?_) (fun c_2 => ?_)
  · rw [hB1] at c_2; exact absurd c_2 (by decide)
  · refine lv_aload_n hx hb dX6_known_8 rfl (lv_at hl 0 rfl) ?_
    refine lv_iload_n hx hb dX6_known_9 rfl (lv_at hl 2 rfl) ?_
    refine va_calli (va_runV (As := [.int (nI b)]) (rest := [.ref ((g 0))]) ⟨hx, hb, hml, hown, hts⟩ (c_X6_isBlock l E g th aa sv ke tx ln ro ai wr dg nb va se rv (nI b) hnb2 hnb) (cwV 1 hts gX6_known_X6_isBlock rfl rfl rfl (by decide +kernel) ⟨Nat.le_of_ble_eq_true rfl, Nat.le_of_ble_eq_true rfl⟩) ⟨wS.blind, (w_recv hK hP 0 (by decide) rfl (ci := 6) rfl), fun U hU hW => wS.go hP hK hI hU hW⟩ rfl rfl hl.1 rfl (lv_room (Nat.le_of_ble_eq_true rfl)) dX6_known_10 ⟨Nat.zero_le _, Nat.zero_le _⟩) hS (fun q _ h => h.elim) (fun q h => h.elim) (fun r_3 uu t H_3 locs_3 ht hvm hw hB hz1 hk1 hS => ?_)
    have hP := hP.same hk1
    obtain rfl : r_3 = (bI (inB (nI b) 0 (nI (nb - 1)))) := hw
    refine lv_if_eq (tgt := 20) hx hb dX6_known_13 (by decide) (fun c_4 => ?_) (fun c_4 => ?_)
    · rw [hB2] at c_4; exact absurd c_4 (by decide)
    · refine lv_iconst (v := 0) hx hb dX6_known_16 (by decide) ?_
      refine lv_goto (tgt := 21) hx hb dX6_known_17 (by decide) ?_
      refine va_calli (va_runV (As := [.int 0]) (rest := []) ⟨hx, hb, hml, hown, hts⟩ (c_X6_holds l E g (mdE nb va se rv) th aa sv ke tx ln ro ai wr dg 0) (cwV 1 hts gX6_known_X6_holds rfl rfl rfl (by decide +kernel) ⟨Nat.le_of_ble_eq_true rfl, Nat.le_of_ble_eq_true rfl⟩) ⟨wS.blind, (w_recv hK hP 0 (by decide) rfl (ci := 6) rfl), fun U hU hW => wS.go hP hK hI hU hW⟩ rfl rfl hl.1 rfl (lv_room (Nat.le_of_ble_eq_true rfl)) dX6_known_21 ⟨Nat.zero_le _, Nat.zero_le _⟩) hS (fun q _ h => h) (fun q h => h) (fun r_5 uu t H_5 locs_5 ht hvm hw hB hz1 hk1 hS => ?_)
      rw [ht] at hB
      have hP : wP E 6 g (moF E g 0 (mdE nb va se rv) aa sv ke tx ln ro ai wr dg) H_5 := hB
      obtain rfl : r_5 = 1 := hw
      refine lv_if_eq (tgt := 36) hx hb dX6_known_24 (by decide) (fun c_6 => ?_) (fun c_6 => ?_)
      · exact absurd c_6 (by decide)
      · refine lv_aload_n hx hb dX6_known_27 rfl (lv_at hl 0 rfl) ?_
        refine lv_iload_n hx hb dX6_known_28 rfl (lv_at hl 1 rfl) ?_
        refine lv_iload_n hx hb dX6_known_29 rfl (lv_at hl 2 rfl) ?_
        have hu3 : u < 3 := by omega
        have hri_7 := hrv u hu3
        obtain ⟨w_7, hv_7, hw_7, hok_7⟩ := hri_7
        rw [show rv = va_up rv u (rvE ((rc u).1) ((rc u).2.1) ((rc u).2.2.1) ((rc u).2.2.2.1) ((rc u).2.2.2.2.1) ((rc u).2.2.2.2.2.length) w_7) from by rw [← hv_7, va_up_id]] at hP
        have hkk_7 := hok_7.2.1
        have hll_7 := hok_7.1
        refine va_calli (va_runV (As := [.int (nI u), .int (nI b)]) (rest := []) ⟨hx, hb, hml, hown, hts⟩ (c_X6_knownOf l E g 0 aa sv ke tx ln ro ai wr dg nb va se rv u ((rc u).1) ((rc u).2.1) ((rc u).2.2.1) ((rc u).2.2.2.1) ((rc u).2.2.2.2.1) ((rc u).2.2.2.2.2) hu3 b (by omega)) (cwV 2 hts gX6_known_X6_knownOf rfl rfl rfl (by decide +kernel) ⟨Nat.le_of_ble_eq_true rfl, Nat.le_of_ble_eq_true rfl⟩) ⟨wS.blind, (w_recv hK hP 0 (by decide) rfl (ci := 6) rfl), fun U hU hW => wS.go ⟨_, hP, hw_7, hok_7⟩ hK hI hU hW⟩ rfl rfl hl.1 rfl (lv_room (Nat.le_of_ble_eq_true rfl)) dX6_known_30 ⟨Nat.zero_le _, Nat.zero_le _⟩) hS (fun q _ h => h.elim) (fun q h => h.elim) (fun r_8 uu t H_8 locs_8 ht hvm hw hB hz1 hk1 hS => ?_)
        have hP := hP.same hk1
        obtain rfl : r_8 = (if ((rc u).2.1).testBit b = true then va b else -1) := hw
        have hrz_9 : ∀ j9, j9 < 3 → rvP (rc j9) ((va_up rv u (rvE ((rc u).1) ((rc u).2.1) ((rc u).2.2.1) ((rc u).2.2.2.1) ((rc u).2.2.2.2.1) ((rc u).2.2.2.2.2.length) w_7)) j9) := rvP_id hrv ⟨w_7, rfl, hw_7, hok_7⟩
        refine lv_goto (tgt := 37) hx hb dX6_known_33 (by decide) ?_
        exact W.iret (v := (if ((rc u).2.1).testBit b = true then va b else -1)) hx hb hr (fun t ht hW => ⟨⟨_, (), rfl, rfl, (by show MOB E g 0 ln tx nb va se rc ke hs (t.heap); rw [ht]; exact ⟨sv, _, _, _, ⟨_, _, _, hP, hrz_9⟩, hsv, hke, hln, hnb2, hnb⟩)⟩, hS.F ht⟩) hS.2.2 dX6_known_37
set_option maxHeartbeats 4000000 in
set_option maxRecDepth 100000 in
theorem c_X6_known_no1 (l : Launch) (E : wE) (g : Nat → Nat) (th : Int32) (ln : Nat) (tx : Nat → Int32) (nb : Nat) (va : Nat → Int32) (se : Int32) (rc : Nat → MR) (ke : Nat) (hs : Nat → MS) (x y : Int32) (hB1 : inB x 0 2 = false) : Met l yX6_known wsX6_known ({ frames := 2, cells := 0, slots := 0, locals := 43 }) (va_Pc [.ref ((g 0)), .int x, .int y] (wS E 6 g (MOB E g th ln tx nb va se rc ke hs))) (va_Qi (fun (r : Int32) (_ : Unit) => r = 0) (fun _ t => MOB E g 1 ln tx nb va se rc ke hs (t.heap)) (wF 6 g)) 0 0 (wF 6 g) := by
  refine Met.ofW (cc := cX6_known) (maxL := 3) (ret := (some .int)) (by decide) rfl ?_
  intro p e s m args below meth c s₁ B hml hv
  obtain ⟨rfl, ⟨sv, ai, wr, dg, ⟨aa, ro, rv, hP, hrv⟩, hsv, hke, hln, hnb2, hnb⟩, hK, hI⟩ := hv
  have hx := B.exec
  have hb := B.bytes
  have hr := B.returns
  have hts := atoms_spec (ws := wsX6_known) B.pre
  have hown : s.vm.findClass RX6 = some m.cls := findClass_of_methodNamed B.named
  have hlocks := B.notSynchronized
  have hS : va_S (wF 6 g) s.heap s.heap [] := va_S.rf
  have hA : ∀ k, k < 6 → (wF 6 g) (g k) := wF_in
  have hl := lv_entry ([.ref ((g 0)), .int x, .int y]) (n := 3) (Nat.le_of_ble_eq_true rfl)
  rw [lg_entry_eq]
  generalize (lg_sl ([.ref ((g 0)), .int x, .int y]) ++ List.replicate (3 - (lg_sl ([.ref ((g 0)), .int x, .int y])).length) Slot.unset).toArray = ls at hl ⊢
  have hl : lv_has ls 3 [(0, .ref ((g 0))), (1, .int x), (2, .int y)] := hl
  have hbN := hnb
  refine lv_aload_n hx hb dX6_known_0 rfl (lv_at hl 0 rfl) ?_
  refine lv_iload_n hx hb dX6_known_1 rfl (lv_at hl 1 rfl) ?_
  refine va_calli (va_runS (As := [.int x]) (rest := [.ref ((g 0))]) ⟨hx, hb, hml, hown, hts⟩ (c_X6_isReceiver l x) (va_cwS 1 hts gX6_known_X6_isReceiver rfl rfl rfl (by decide +kernel) ⟨Nat.le_of_ble_eq_true rfl, Nat.le_of_ble_eq_true rfl⟩) ⟨wU_blind, fun U hU hW => ⟨rfl, trivial⟩⟩ rfl rfl hl.1 rfl (lv_room (Nat.le_of_ble_eq_true rfl)) dX6_known_2 ⟨Nat.zero_le _, Nat.zero_le _⟩) hS (fun q _ h => h.elim) (fun q h => h.elim) (fun r_1 uu t H_1 locs_1 ht hvm hw hB hz1 hk1 hS => ?_)
  have hP := hP.same hk1
  obtain rfl : r_1 = (bI (inB x 0 2)) := hw
  refine lv_if_eq (tgt := 20) hx hb dX6_known_5 (by decide) (fun c_2 => ?_) (fun c_2 => ?_)
  · refine lv_iconst (v := 1) hx hb dX6_known_20 (by decide) ?_
    refine va_calli (va_runV (As := [.int 1]) (rest := []) ⟨hx, hb, hml, hown, hts⟩ (c_X6_holds l E g (mdE nb va se rv) th aa sv ke tx ln ro ai wr dg 1) (cwV 1 hts gX6_known_X6_holds rfl rfl rfl (by decide +kernel) ⟨Nat.le_of_ble_eq_true rfl, Nat.le_of_ble_eq_true rfl⟩) ⟨wS.blind, (w_recv hK hP 0 (by decide) rfl (ci := 6) rfl), fun U hU hW => wS.go hP hK hI hU hW⟩ rfl rfl hl.1 rfl (lv_room (Nat.le_of_ble_eq_true rfl)) dX6_known_21 ⟨Nat.zero_le _, Nat.zero_le _⟩) hS (fun q _ h => h) (fun q h => h) (fun r_3 uu t H_3 locs_3 ht hvm hw hB hz1 hk1 hS => ?_)
    rw [ht] at hB
    have hP : wP E 6 g (moF E g 1 (mdE nb va se rv) aa sv ke tx ln ro ai wr dg) H_3 := hB
    obtain rfl : r_3 = 0 := hw
    refine lv_if_eq (tgt := 36) hx hb dX6_known_24 (by decide) (fun c_4 => ?_) (fun c_4 => ?_)
    · refine lv_iconst (v := 0) hx hb dX6_known_36 (by decide) ?_
      exact W.iret (v := 0) hx hb hr (fun t ht hW => ⟨⟨_, (), rfl, rfl, (by show MOB E g 1 ln tx nb va se rc ke hs (t.heap); rw [ht]; exact ⟨sv, _, _, _, ⟨_, _, _, hP, hrv⟩, hsv, hke, hln, hnb2, hnb⟩)⟩, hS.F ht⟩) hS.2.2 dX6_known_37
    · exact absurd rfl c_4
  · rw [hB1] at c_2; exact absurd rfl c_2
set_option maxHeartbeats 4000000 in
set_option maxRecDepth 100000 in
theorem c_X6_known_no2 (l : Launch) (E : wE) (g : Nat → Nat) (th : Int32) (ln : Nat) (tx : Nat → Int32) (nb : Nat) (va : Nat → Int32) (se : Int32) (rc : Nat → MR) (ke : Nat) (hs : Nat → MS) (x y : Int32) (hB1 : inB x 0 2 = true) (hB2 : inB y 0 (nI (nb - 1)) = false) : Met l yX6_known wsX6_known ({ frames := 2, cells := 0, slots := 0, locals := 43 }) (va_Pc [.ref ((g 0)), .int x, .int y] (wS E 6 g (MOB E g th ln tx nb va se rc ke hs))) (va_Qi (fun (r : Int32) (_ : Unit) => r = 0) (fun _ t => MOB E g 1 ln tx nb va se rc ke hs (t.heap)) (wF 6 g)) 0 0 (wF 6 g) := by
  refine Met.ofW (cc := cX6_known) (maxL := 3) (ret := (some .int)) (by decide) rfl ?_
  intro p e s m args below meth c s₁ B hml hv
  obtain ⟨rfl, ⟨sv, ai, wr, dg, ⟨aa, ro, rv, hP, hrv⟩, hsv, hke, hln, hnb2, hnb⟩, hK, hI⟩ := hv
  have hx := B.exec
  have hb := B.bytes
  have hr := B.returns
  have hts := atoms_spec (ws := wsX6_known) B.pre
  have hown : s.vm.findClass RX6 = some m.cls := findClass_of_methodNamed B.named
  have hlocks := B.notSynchronized
  have hS : va_S (wF 6 g) s.heap s.heap [] := va_S.rf
  have hA : ∀ k, k < 6 → (wF 6 g) (g k) := wF_in
  have hl := lv_entry ([.ref ((g 0)), .int x, .int y]) (n := 3) (Nat.le_of_ble_eq_true rfl)
  rw [lg_entry_eq]
  generalize (lg_sl ([.ref ((g 0)), .int x, .int y]) ++ List.replicate (3 - (lg_sl ([.ref ((g 0)), .int x, .int y])).length) Slot.unset).toArray = ls at hl ⊢
  have hl : lv_has ls 3 [(0, .ref ((g 0))), (1, .int x), (2, .int y)] := hl
  have hbN := hnb
  refine lv_aload_n hx hb dX6_known_0 rfl (lv_at hl 0 rfl) ?_
  refine lv_iload_n hx hb dX6_known_1 rfl (lv_at hl 1 rfl) ?_
  refine va_calli (va_runS (As := [.int x]) (rest := [.ref ((g 0))]) ⟨hx, hb, hml, hown, hts⟩ (c_X6_isReceiver l x) (va_cwS 1 hts gX6_known_X6_isReceiver rfl rfl rfl (by decide +kernel) ⟨Nat.le_of_ble_eq_true rfl, Nat.le_of_ble_eq_true rfl⟩) ⟨wU_blind, fun U hU hW => ⟨rfl, trivial⟩⟩ rfl rfl hl.1 rfl (lv_room (Nat.le_of_ble_eq_true rfl)) dX6_known_2 ⟨Nat.zero_le _, Nat.zero_le _⟩) hS (fun q _ h => h.elim) (fun q h => h.elim) (fun r_1 uu t H_1 locs_1 ht hvm hw hB hz1 hk1 hS => ?_)
  have hP := hP.same hk1
  obtain rfl : r_1 = (bI (inB x 0 2)) := hw
  refine lv_if_eq (tgt := 20) hx hb dX6_known_5 (by decide) (fun c_2 => ?_) (fun c_2 => ?_)
  · rw [hB1] at c_2; exact absurd c_2 (by decide)
  · refine lv_aload_n hx hb dX6_known_8 rfl (lv_at hl 0 rfl) ?_
    refine lv_iload_n hx hb dX6_known_9 rfl (lv_at hl 2 rfl) ?_
    refine va_calli (va_runV (As := [.int y]) (rest := [.ref ((g 0))]) ⟨hx, hb, hml, hown, hts⟩ (c_X6_isBlock l E g th aa sv ke tx ln ro ai wr dg nb va se rv y hnb2 hnb) (cwV 1 hts gX6_known_X6_isBlock rfl rfl rfl (by decide +kernel) ⟨Nat.le_of_ble_eq_true rfl, Nat.le_of_ble_eq_true rfl⟩) ⟨wS.blind, (w_recv hK hP 0 (by decide) rfl (ci := 6) rfl), fun U hU hW => wS.go hP hK hI hU hW⟩ rfl rfl hl.1 rfl (lv_room (Nat.le_of_ble_eq_true rfl)) dX6_known_10 ⟨Nat.zero_le _, Nat.zero_le _⟩) hS (fun q _ h => h.elim) (fun q h => h.elim) (fun r_3 uu t H_3 locs_3 ht hvm hw hB hz1 hk1 hS => ?_)
    have hP := hP.same hk1
    obtain rfl : r_3 = (bI (inB y 0 (nI (nb - 1)))) := hw
    refine lv_if_eq (tgt := 20) hx hb dX6_known_13 (by decide) (fun c_4 => ?_) (fun c_4 => ?_)
    · refine lv_iconst (v := 1) hx hb dX6_known_20 (by decide) ?_
      refine va_calli (va_runV (As := [.int 1]) (rest := []) ⟨hx, hb, hml, hown, hts⟩ (c_X6_holds l E g (mdE nb va se rv) th aa sv ke tx ln ro ai wr dg 1) (cwV 1 hts gX6_known_X6_holds rfl rfl rfl (by decide +kernel) ⟨Nat.le_of_ble_eq_true rfl, Nat.le_of_ble_eq_true rfl⟩) ⟨wS.blind, (w_recv hK hP 0 (by decide) rfl (ci := 6) rfl), fun U hU hW => wS.go hP hK hI hU hW⟩ rfl rfl hl.1 rfl (lv_room (Nat.le_of_ble_eq_true rfl)) dX6_known_21 ⟨Nat.zero_le _, Nat.zero_le _⟩) hS (fun q _ h => h) (fun q h => h) (fun r_5 uu t H_5 locs_5 ht hvm hw hB hz1 hk1 hS => ?_)
      rw [ht] at hB
      have hP : wP E 6 g (moF E g 1 (mdE nb va se rv) aa sv ke tx ln ro ai wr dg) H_5 := hB
      obtain rfl : r_5 = 0 := hw
      refine lv_if_eq (tgt := 36) hx hb dX6_known_24 (by decide) (fun c_6 => ?_) (fun c_6 => ?_)
      · refine lv_iconst (v := 0) hx hb dX6_known_36 (by decide) ?_
        exact W.iret (v := 0) hx hb hr (fun t ht hW => ⟨⟨_, (), rfl, rfl, (by show MOB E g 1 ln tx nb va se rc ke hs (t.heap); rw [ht]; exact ⟨sv, _, _, _, ⟨_, _, _, hP, hrv⟩, hsv, hke, hln, hnb2, hnb⟩)⟩, hS.F ht⟩) hS.2.2 dX6_known_37
      · exact absurd rfl c_6
    · rw [hB2] at c_4; exact absurd rfl c_4
set_option maxHeartbeats 4000000 in
set_option maxRecDepth 100000 in
theorem c_X6_waiting_ok (l : Launch) (E : wE) (g : Nat → Nat) (th : Int32) (ln : Nat) (tx : Nat → Int32) (nb : Nat) (va : Nat → Int32) (se : Int32) (rc : Nat → MR) (ke : Nat) (hs : Nat → MS) (u : Nat) (hu3 : u < 3) (q9 j : Nat) (hq9 : q9 < 2 ^ 31) (hj2 : j < 2) : Met l yX6_waiting wsX6_waiting ({ frames := 2, cells := 0, slots := 0, locals := 47 }) (va_Pc [.ref ((g 0)), .int (nI u), .int (nI q9), .int (nI j)] (wS E 6 g (MOB E g th ln tx nb va se rc ke hs))) (va_Qi (fun (r : Int32) (_ : Unit) => r = (if (rc u).2.2.2.2.2.length ≤ q9 then -1 else if j = 0 then nI ((rc u).2.2.2.2.2.getD q9 0) else vlM nb va ((rc u).2.2.2.2.2.getD q9 0))) (fun _ t => MOB E g 0 ln tx nb va se rc ke hs (t.heap)) (wF 6 g)) 0 0 (wF 6 g) := by
  refine Met.ofW (cc := cX6_waiting) (maxL := 4) (ret := (some .int)) (by decide) rfl ?_
  intro p e s m args below meth c s₁ B hml hv
  obtain ⟨rfl, ⟨sv, ai, wr, dg, ⟨aa, ro, rv, hP, hrv⟩, hsv, hke, hln, hnb2, hnb⟩, hK, hI⟩ := hv
  have hx := B.exec
  have hb := B.bytes
  have hr := B.returns
  have hts := atoms_spec (ws := wsX6_waiting) B.pre
  have hown : s.vm.findClass RX6 = some m.cls := findClass_of_methodNamed B.named
  have hlocks := B.notSynchronized
  have hS : va_S (wF 6 g) s.heap s.heap [] := va_S.rf
  have hA : ∀ k, k < 6 → (wF 6 g) (g k) := wF_in
  have hl := lv_entry ([.ref ((g 0)), .int (nI u), .int (nI q9), .int (nI j)]) (n := 4) (Nat.le_of_ble_eq_true rfl)
  rw [lg_entry_eq]
  generalize (lg_sl ([.ref ((g 0)), .int (nI u), .int (nI q9), .int (nI j)]) ++ List.replicate (4 - (lg_sl ([.ref ((g 0)), .int (nI u), .int (nI q9), .int (nI j)])).length) Slot.unset).toArray = ls at hl ⊢
  have hl : lv_has ls 4 [(0, .ref ((g 0))), (1, .int (nI u)), (2, .int (nI q9)), (3, .int (nI j))] := hl
  have hbN := hnb
  have hB1 : inB (nI u) 0 2 = true := inB_t (n := u) (a := 0) (b := 2) rfl rfl rfl (by omega) (by omega) (by omega)
  have hB2 : inB (nI j) 0 1 = true := inB_t (n := j) (a := 0) (b := 1) rfl rfl rfl (by omega) (by omega) (by omega)
  refine lv_aload_n hx hb dX6_waiting_0 rfl (lv_at hl 0 rfl) ?_
  refine lv_iload_n hx hb dX6_waiting_1 rfl (lv_at hl 1 rfl) ?_
  refine va_calli (va_runS (As := [.int (nI u)]) (rest := [.ref ((g 0))]) ⟨hx, hb, hml, hown, hts⟩ (c_X6_isReceiver l (nI u)) (va_cwS 1 hts gX6_waiting_X6_isReceiver rfl rfl rfl (by decide +kernel) ⟨Nat.le_of_ble_eq_true rfl, Nat.le_of_ble_eq_true rfl⟩) ⟨wU_blind, fun U hU hW => ⟨rfl, trivial⟩⟩ rfl rfl hl.1 rfl (lv_room (Nat.le_of_ble_eq_true rfl)) dX6_waiting_2 ⟨Nat.zero_le _, Nat.zero_le _⟩) hS (fun q _ h => h.elim) (fun q h => h.elim) (fun r_1 uu t H_1 locs_1 ht hvm hw hB hz1 hk1 hS => ?_)
  have hP := hP.same hk1
  obtain rfl : r_1 = (bI (inB (nI u) 0 2)) := hw
  refine lv_if_ne (tgt := 12) hx hb dX6_waiting_5 (by decide) (fun c_2 => ?_) (fun c_2 => ?_)
  · refine lv_iload_n hx hb dX6_waiting_12 rfl (lv_at hl 2 rfl) ?_
    refine lv_if_lt (tgt := 25) hx hb dX6_waiting_13 (by decide) (fun c_3 => ?_) (fun c_3 => ?_)
    · exact absurd c_3 (nI_pos (by omega))
    · have n_3 : ¬ (q9 < 0) := fun z => c_3 ((nI_ltI (a := q9) (b := 0) (by omega) (by omega)).mpr z)
      refine lv_iload_n hx hb dX6_waiting_16 rfl (lv_at hl 3 rfl) ?_
      refine lv_iconst (v := 0) hx hb dX6_waiting_17 (by decide) ?_
      refine lv_iconst (v := 1) hx hb dX6_waiting_18 (by decide) ?_
      refine va_calli (va_runS (As := [.int (nI j), .int 0, .int 1]) (rest := [.ref ((g 0))]) ⟨hx, hb, hml, hown, hts⟩ (c_X6_in l (nI j) 0 1) (va_cwS 3 hts gX6_waiting_X6_in rfl rfl rfl (by decide +kernel) ⟨Nat.le_of_ble_eq_true rfl, Nat.le_of_ble_eq_true rfl⟩) ⟨wU_blind, fun U hU hW => ⟨rfl, trivial⟩⟩ rfl rfl hl.1 rfl (lv_room (Nat.le_of_ble_eq_true rfl)) dX6_waiting_19 ⟨Nat.zero_le _, Nat.zero_le _⟩) hS (fun q _ h => h.elim) (fun q h => h.elim) (fun r_4 uu t H_4 locs_4 ht hvm hw hB hz1 hk1 hS => ?_)
      have hP := hP.same hk1
      obtain rfl : r_4 = (bI (inB (nI j) 0 1)) := hw
      refine lv_if_ne (tgt := 29) hx hb dX6_waiting_22 (by decide) (fun c_5 => ?_) (fun c_5 => ?_)
      · refine lv_iconst (v := 0) hx hb dX6_waiting_29 (by decide) ?_
        refine va_calli (va_runV (As := [.int 0]) (rest := []) ⟨hx, hb, hml, hown, hts⟩ (c_X6_holds l E g (mdE nb va se rv) th aa sv ke tx ln ro ai wr dg 0) (cwV 1 hts gX6_waiting_X6_holds rfl rfl rfl (by decide +kernel) ⟨Nat.le_of_ble_eq_true rfl, Nat.le_of_ble_eq_true rfl⟩) ⟨wS.blind, (w_recv hK hP 0 (by decide) rfl (ci := 6) rfl), fun U hU hW => wS.go hP hK hI hU hW⟩ rfl rfl hl.1 rfl (lv_room (Nat.le_of_ble_eq_true rfl)) dX6_waiting_30 ⟨Nat.zero_le _, Nat.zero_le _⟩) hS (fun q _ h => h) (fun q h => h) (fun r_6 uu t H_6 locs_6 ht hvm hw hB hz1 hk1 hS => ?_)
        rw [ht] at hB
        have hP : wP E 6 g (moF E g 0 (mdE nb va se rv) aa sv ke tx ln ro ai wr dg) H_6 := hB
        obtain rfl : r_6 = 1 := hw
        refine lv_if_eq (tgt := 46) hx hb dX6_waiting_33 (by decide) (fun c_7 => ?_) (fun c_7 => ?_)
        · exact absurd c_7 (by decide)
        · refine lv_aload_n hx hb dX6_waiting_36 rfl (lv_at hl 0 rfl) ?_
          refine lv_iload_n hx hb dX6_waiting_37 rfl (lv_at hl 1 rfl) ?_
          refine lv_iload_n hx hb dX6_waiting_38 rfl (lv_at hl 2 rfl) ?_
          refine lv_iload_n hx hb dX6_waiting_39 rfl (lv_at hl 3 rfl) ?_
          have hu3 : u < 3 := by omega
          have hri_8 := hrv u hu3
          obtain ⟨w_8, hv_8, hw_8, hok_8⟩ := hri_8
          rw [show rv = va_up rv u (rvE ((rc u).1) ((rc u).2.1) ((rc u).2.2.1) ((rc u).2.2.2.1) ((rc u).2.2.2.2.1) ((rc u).2.2.2.2.2.length) w_8) from by rw [← hv_8, va_up_id]] at hP
          have hkk_8 := hok_8.2.1
          have hll_8 := hok_8.1
          refine va_calli (va_runV (As := [.int (nI u), .int (nI q9), .int (nI j)]) (rest := []) ⟨hx, hb, hml, hown, hts⟩ (c_X6_waitsAt l E g 0 aa sv ke tx ln ro ai wr dg nb va se rv u ((rc u).1) ((rc u).2.1) ((rc u).2.2.1) ((rc u).2.2.2.1) ((rc u).2.2.2.2.1) ((rc u).2.2.2.2.2) hu3 q9 j (by omega) (by omega) hnb) (cwV 3 hts gX6_waiting_X6_waitsAt rfl rfl rfl (by decide +kernel) ⟨Nat.le_of_ble_eq_true rfl, Nat.le_of_ble_eq_true rfl⟩) ⟨wS.blind, (w_recv hK hP 0 (by decide) rfl (ci := 6) rfl), fun U hU hW => wS.go ⟨_, hP, hw_8, hok_8⟩ hK hI hU hW⟩ rfl rfl hl.1 rfl (lv_room (Nat.le_of_ble_eq_true rfl)) dX6_waiting_40 ⟨Nat.zero_le _, Nat.zero_le _⟩) hS (fun q _ h => h.elim) (fun q h => h.elim) (fun r_9 uu t H_9 locs_9 ht hvm hw hB hz1 hk1 hS => ?_)
          have hP := hP.same hk1
          obtain rfl : r_9 = (if ((rc u).2.2.2.2.2).length ≤ q9 then -1 else if j = 0 then nI (((rc u).2.2.2.2.2).getD q9 0) else vlM nb va (((rc u).2.2.2.2.2).getD q9 0)) := hw
          have hrz_10 : ∀ j9, j9 < 3 → rvP (rc j9) ((va_up rv u (rvE ((rc u).1) ((rc u).2.1) ((rc u).2.2.1) ((rc u).2.2.2.1) ((rc u).2.2.2.2.1) ((rc u).2.2.2.2.2.length) w_8)) j9) := rvP_id hrv ⟨w_8, rfl, hw_8, hok_8⟩
          refine lv_goto (tgt := 47) hx hb dX6_waiting_43 (by decide) ?_
          exact W.iret (v := (if ((rc u).2.2.2.2.2).length ≤ q9 then -1 else if j = 0 then nI (((rc u).2.2.2.2.2).getD q9 0) else vlM nb va (((rc u).2.2.2.2.2).getD q9 0))) hx hb hr (fun t ht hW => ⟨⟨_, (), rfl, rfl, (by show MOB E g 0 ln tx nb va se rc ke hs (t.heap); rw [ht]; exact ⟨sv, _, _, _, ⟨_, _, _, hP, hrz_10⟩, hsv, hke, hln, hnb2, hnb⟩)⟩, hS.F ht⟩) hS.2.2 dX6_waiting_47
      · rw [hB2] at c_5; exact absurd c_5 (by decide)
  · rw [hB1] at c_2; exact absurd c_2 (by decide)
set_option maxHeartbeats 4000000 in
set_option maxRecDepth 100000 in
theorem c_X6_waiting_no1 (l : Launch) (E : wE) (g : Nat → Nat) (th : Int32) (ln : Nat) (tx : Nat → Int32) (nb : Nat) (va : Nat → Int32) (se : Int32) (rc : Nat → MR) (ke : Nat) (hs : Nat → MS) (x y z : Int32) (hB1 : inB x 0 2 = false) : Met l yX6_waiting wsX6_waiting ({ frames := 2, cells := 0, slots := 0, locals := 47 }) (va_Pc [.ref ((g 0)), .int x, .int y, .int z] (wS E 6 g (MOB E g th ln tx nb va se rc ke hs))) (va_Qi (fun (r : Int32) (_ : Unit) => r = 0) (fun _ t => MOB E g 1 ln tx nb va se rc ke hs (t.heap)) (wF 6 g)) 0 0 (wF 6 g) := by
  refine Met.ofW (cc := cX6_waiting) (maxL := 4) (ret := (some .int)) (by decide) rfl ?_
  intro p e s m args below meth c s₁ B hml hv
  obtain ⟨rfl, ⟨sv, ai, wr, dg, ⟨aa, ro, rv, hP, hrv⟩, hsv, hke, hln, hnb2, hnb⟩, hK, hI⟩ := hv
  have hx := B.exec
  have hb := B.bytes
  have hr := B.returns
  have hts := atoms_spec (ws := wsX6_waiting) B.pre
  have hown : s.vm.findClass RX6 = some m.cls := findClass_of_methodNamed B.named
  have hlocks := B.notSynchronized
  have hS : va_S (wF 6 g) s.heap s.heap [] := va_S.rf
  have hA : ∀ k, k < 6 → (wF 6 g) (g k) := wF_in
  have hl := lv_entry ([.ref ((g 0)), .int x, .int y, .int z]) (n := 4) (Nat.le_of_ble_eq_true rfl)
  rw [lg_entry_eq]
  generalize (lg_sl ([.ref ((g 0)), .int x, .int y, .int z]) ++ List.replicate (4 - (lg_sl ([.ref ((g 0)), .int x, .int y, .int z])).length) Slot.unset).toArray = ls at hl ⊢
  have hl : lv_has ls 4 [(0, .ref ((g 0))), (1, .int x), (2, .int y), (3, .int z)] := hl
  have hbN := hnb
  refine lv_aload_n hx hb dX6_waiting_0 rfl (lv_at hl 0 rfl) ?_
  refine lv_iload_n hx hb dX6_waiting_1 rfl (lv_at hl 1 rfl) ?_
  refine va_calli (va_runS (As := [.int x]) (rest := [.ref ((g 0))]) ⟨hx, hb, hml, hown, hts⟩ (c_X6_isReceiver l x) (va_cwS 1 hts gX6_waiting_X6_isReceiver rfl rfl rfl (by decide +kernel) ⟨Nat.le_of_ble_eq_true rfl, Nat.le_of_ble_eq_true rfl⟩) ⟨wU_blind, fun U hU hW => ⟨rfl, trivial⟩⟩ rfl rfl hl.1 rfl (lv_room (Nat.le_of_ble_eq_true rfl)) dX6_waiting_2 ⟨Nat.zero_le _, Nat.zero_le _⟩) hS (fun q _ h => h.elim) (fun q h => h.elim) (fun r_1 uu t H_1 locs_1 ht hvm hw hB hz1 hk1 hS => ?_)
  have hP := hP.same hk1
  obtain rfl : r_1 = (bI (inB x 0 2)) := hw
  refine lv_if_ne (tgt := 12) hx hb dX6_waiting_5 (by decide) (fun c_2 => ?_) (fun c_2 => ?_)
  · rw [hB1] at c_2; exact absurd rfl c_2
  · refine lv_iconst (v := 1) hx hb dX6_waiting_8 (by decide) ?_
    refine lv_goto (tgt := 30) hx hb dX6_waiting_9 (by decide) ?_
    refine va_calli (va_runV (As := [.int 1]) (rest := []) ⟨hx, hb, hml, hown, hts⟩ (c_X6_holds l E g (mdE nb va se rv) th aa sv ke tx ln ro ai wr dg 1) (cwV 1 hts gX6_waiting_X6_holds rfl rfl rfl (by decide +kernel) ⟨Nat.le_of_ble_eq_true rfl, Nat.le_of_ble_eq_true rfl⟩) ⟨wS.blind, (w_recv hK hP 0 (by decide) rfl (ci := 6) rfl), fun U hU hW => wS.go hP hK hI hU hW⟩ rfl rfl hl.1 rfl (lv_room (Nat.le_of_ble_eq_true rfl)) dX6_waiting_30 ⟨Nat.zero_le _, Nat.zero_le _⟩) hS (fun q _ h => h) (fun q h => h) (fun r_3 uu t H_3 locs_3 ht hvm hw hB hz1 hk1 hS => ?_)
    rw [ht] at hB
    have hP : wP E 6 g (moF E g 1 (mdE nb va se rv) aa sv ke tx ln ro ai wr dg) H_3 := hB
    obtain rfl : r_3 = 0 := hw
    refine lv_if_eq (tgt := 46) hx hb dX6_waiting_33 (by decide) (fun c_4 => ?_) (fun c_4 => ?_)
    · refine lv_iconst (v := 0) hx hb dX6_waiting_46 (by decide) ?_
      exact W.iret (v := 0) hx hb hr (fun t ht hW => ⟨⟨_, (), rfl, rfl, (by show MOB E g 1 ln tx nb va se rc ke hs (t.heap); rw [ht]; exact ⟨sv, _, _, _, ⟨_, _, _, hP, hrv⟩, hsv, hke, hln, hnb2, hnb⟩)⟩, hS.F ht⟩) hS.2.2 dX6_waiting_47
    · exact absurd rfl c_4
set_option maxHeartbeats 4000000 in
set_option maxRecDepth 100000 in
theorem c_X6_waiting_no2 (l : Launch) (E : wE) (g : Nat → Nat) (th : Int32) (ln : Nat) (tx : Nat → Int32) (nb : Nat) (va : Nat → Int32) (se : Int32) (rc : Nat → MR) (ke : Nat) (hs : Nat → MS) (x y z : Int32) (hB1 : inB x 0 2 = true) (hy0 : y < 0) : Met l yX6_waiting wsX6_waiting ({ frames := 2, cells := 0, slots := 0, locals := 47 }) (va_Pc [.ref ((g 0)), .int x, .int y, .int z] (wS E 6 g (MOB E g th ln tx nb va se rc ke hs))) (va_Qi (fun (r : Int32) (_ : Unit) => r = 0) (fun _ t => MOB E g 2 ln tx nb va se rc ke hs (t.heap)) (wF 6 g)) 0 0 (wF 6 g) := by
  refine Met.ofW (cc := cX6_waiting) (maxL := 4) (ret := (some .int)) (by decide) rfl ?_
  intro p e s m args below meth c s₁ B hml hv
  obtain ⟨rfl, ⟨sv, ai, wr, dg, ⟨aa, ro, rv, hP, hrv⟩, hsv, hke, hln, hnb2, hnb⟩, hK, hI⟩ := hv
  have hx := B.exec
  have hb := B.bytes
  have hr := B.returns
  have hts := atoms_spec (ws := wsX6_waiting) B.pre
  have hown : s.vm.findClass RX6 = some m.cls := findClass_of_methodNamed B.named
  have hlocks := B.notSynchronized
  have hS : va_S (wF 6 g) s.heap s.heap [] := va_S.rf
  have hA : ∀ k, k < 6 → (wF 6 g) (g k) := wF_in
  have hl := lv_entry ([.ref ((g 0)), .int x, .int y, .int z]) (n := 4) (Nat.le_of_ble_eq_true rfl)
  rw [lg_entry_eq]
  generalize (lg_sl ([.ref ((g 0)), .int x, .int y, .int z]) ++ List.replicate (4 - (lg_sl ([.ref ((g 0)), .int x, .int y, .int z])).length) Slot.unset).toArray = ls at hl ⊢
  have hl : lv_has ls 4 [(0, .ref ((g 0))), (1, .int x), (2, .int y), (3, .int z)] := hl
  have hbN := hnb
  refine lv_aload_n hx hb dX6_waiting_0 rfl (lv_at hl 0 rfl) ?_
  refine lv_iload_n hx hb dX6_waiting_1 rfl (lv_at hl 1 rfl) ?_
  refine va_calli (va_runS (As := [.int x]) (rest := [.ref ((g 0))]) ⟨hx, hb, hml, hown, hts⟩ (c_X6_isReceiver l x) (va_cwS 1 hts gX6_waiting_X6_isReceiver rfl rfl rfl (by decide +kernel) ⟨Nat.le_of_ble_eq_true rfl, Nat.le_of_ble_eq_true rfl⟩) ⟨wU_blind, fun U hU hW => ⟨rfl, trivial⟩⟩ rfl rfl hl.1 rfl (lv_room (Nat.le_of_ble_eq_true rfl)) dX6_waiting_2 ⟨Nat.zero_le _, Nat.zero_le _⟩) hS (fun q _ h => h.elim) (fun q h => h.elim) (fun r_1 uu t H_1 locs_1 ht hvm hw hB hz1 hk1 hS => ?_)
  have hP := hP.same hk1
  obtain rfl : r_1 = (bI (inB x 0 2)) := hw
  refine lv_if_ne (tgt := 12) hx hb dX6_waiting_5 (by decide) (fun c_2 => ?_) (fun c_2 => ?_)
  · refine lv_iload_n hx hb dX6_waiting_12 rfl (lv_at hl 2 rfl) ?_
    refine lv_if_lt (tgt := 25) hx hb dX6_waiting_13 (by decide) (fun c_3 => ?_) (fun c_3 => ?_)
    · refine lv_iconst (v := 2) hx hb dX6_waiting_25 (by decide) ?_
      refine lv_goto (tgt := 30) hx hb dX6_waiting_26 (by decide) ?_
      refine va_calli (va_runV (As := [.int 2]) (rest := []) ⟨hx, hb, hml, hown, hts⟩ (c_X6_holds l E g (mdE nb va se rv) th aa sv ke tx ln ro ai wr dg 2) (cwV 1 hts gX6_waiting_X6_holds rfl rfl rfl (by decide +kernel) ⟨Nat.le_of_ble_eq_true rfl, Nat.le_of_ble_eq_true rfl⟩) ⟨wS.blind, (w_recv hK hP 0 (by decide) rfl (ci := 6) rfl), fun U hU hW => wS.go hP hK hI hU hW⟩ rfl rfl hl.1 rfl (lv_room (Nat.le_of_ble_eq_true rfl)) dX6_waiting_30 ⟨Nat.zero_le _, Nat.zero_le _⟩) hS (fun q _ h => h) (fun q h => h) (fun r_4 uu t H_4 locs_4 ht hvm hw hB hz1 hk1 hS => ?_)
      rw [ht] at hB
      have hP : wP E 6 g (moF E g 2 (mdE nb va se rv) aa sv ke tx ln ro ai wr dg) H_4 := hB
      obtain rfl : r_4 = 0 := hw
      refine lv_if_eq (tgt := 46) hx hb dX6_waiting_33 (by decide) (fun c_5 => ?_) (fun c_5 => ?_)
      · refine lv_iconst (v := 0) hx hb dX6_waiting_46 (by decide) ?_
        exact W.iret (v := 0) hx hb hr (fun t ht hW => ⟨⟨_, (), rfl, rfl, (by show MOB E g 2 ln tx nb va se rc ke hs (t.heap); rw [ht]; exact ⟨sv, _, _, _, ⟨_, _, _, hP, hrv⟩, hsv, hke, hln, hnb2, hnb⟩)⟩, hS.F ht⟩) hS.2.2 dX6_waiting_47
      · exact absurd rfl c_5
    · exact absurd hy0 c_3
  · rw [hB1] at c_2; exact absurd c_2 (by decide)
set_option maxHeartbeats 4000000 in
set_option maxRecDepth 100000 in
theorem c_X6_waiting_no3 (l : Launch) (E : wE) (g : Nat → Nat) (th : Int32) (ln : Nat) (tx : Nat → Int32) (nb : Nat) (va : Nat → Int32) (se : Int32) (rc : Nat → MR) (ke : Nat) (hs : Nat → MS) (x y z : Int32) (hB1 : inB x 0 2 = true) (hB2 : inB z 0 1 = false) (hy0 : ¬ y < 0) : Met l yX6_waiting wsX6_waiting ({ frames := 2, cells := 0, slots := 0, locals := 47 }) (va_Pc [.ref ((g 0)), .int x, .int y, .int z] (wS E 6 g (MOB E g th ln tx nb va se rc ke hs))) (va_Qi (fun (r : Int32) (_ : Unit) => r = 0) (fun _ t => MOB E g 2 ln tx nb va se rc ke hs (t.heap)) (wF 6 g)) 0 0 (wF 6 g) := by
  refine Met.ofW (cc := cX6_waiting) (maxL := 4) (ret := (some .int)) (by decide) rfl ?_
  intro p e s m args below meth c s₁ B hml hv
  obtain ⟨rfl, ⟨sv, ai, wr, dg, ⟨aa, ro, rv, hP, hrv⟩, hsv, hke, hln, hnb2, hnb⟩, hK, hI⟩ := hv
  have hx := B.exec
  have hb := B.bytes
  have hr := B.returns
  have hts := atoms_spec (ws := wsX6_waiting) B.pre
  have hown : s.vm.findClass RX6 = some m.cls := findClass_of_methodNamed B.named
  have hlocks := B.notSynchronized
  have hS : va_S (wF 6 g) s.heap s.heap [] := va_S.rf
  have hA : ∀ k, k < 6 → (wF 6 g) (g k) := wF_in
  have hl := lv_entry ([.ref ((g 0)), .int x, .int y, .int z]) (n := 4) (Nat.le_of_ble_eq_true rfl)
  rw [lg_entry_eq]
  generalize (lg_sl ([.ref ((g 0)), .int x, .int y, .int z]) ++ List.replicate (4 - (lg_sl ([.ref ((g 0)), .int x, .int y, .int z])).length) Slot.unset).toArray = ls at hl ⊢
  have hl : lv_has ls 4 [(0, .ref ((g 0))), (1, .int x), (2, .int y), (3, .int z)] := hl
  have hbN := hnb
  refine lv_aload_n hx hb dX6_waiting_0 rfl (lv_at hl 0 rfl) ?_
  refine lv_iload_n hx hb dX6_waiting_1 rfl (lv_at hl 1 rfl) ?_
  refine va_calli (va_runS (As := [.int x]) (rest := [.ref ((g 0))]) ⟨hx, hb, hml, hown, hts⟩ (c_X6_isReceiver l x) (va_cwS 1 hts gX6_waiting_X6_isReceiver rfl rfl rfl (by decide +kernel) ⟨Nat.le_of_ble_eq_true rfl, Nat.le_of_ble_eq_true rfl⟩) ⟨wU_blind, fun U hU hW => ⟨rfl, trivial⟩⟩ rfl rfl hl.1 rfl (lv_room (Nat.le_of_ble_eq_true rfl)) dX6_waiting_2 ⟨Nat.zero_le _, Nat.zero_le _⟩) hS (fun q _ h => h.elim) (fun q h => h.elim) (fun r_1 uu t H_1 locs_1 ht hvm hw hB hz1 hk1 hS => ?_)
  have hP := hP.same hk1
  obtain rfl : r_1 = (bI (inB x 0 2)) := hw
  refine lv_if_ne (tgt := 12) hx hb dX6_waiting_5 (by decide) (fun c_2 => ?_) (fun c_2 => ?_)
  · refine lv_iload_n hx hb dX6_waiting_12 rfl (lv_at hl 2 rfl) ?_
    refine lv_if_lt (tgt := 25) hx hb dX6_waiting_13 (by decide) (fun c_3 => ?_) (fun c_3 => ?_)
    · exact absurd c_3 hy0
    · refine lv_iload_n hx hb dX6_waiting_16 rfl (lv_at hl 3 rfl) ?_
      refine lv_iconst (v := 0) hx hb dX6_waiting_17 (by decide) ?_
      refine lv_iconst (v := 1) hx hb dX6_waiting_18 (by decide) ?_
      refine va_calli (va_runS (As := [.int z, .int 0, .int 1]) (rest := [.ref ((g 0))]) ⟨hx, hb, hml, hown, hts⟩ (c_X6_in l z 0 1) (va_cwS 3 hts gX6_waiting_X6_in rfl rfl rfl (by decide +kernel) ⟨Nat.le_of_ble_eq_true rfl, Nat.le_of_ble_eq_true rfl⟩) ⟨wU_blind, fun U hU hW => ⟨rfl, trivial⟩⟩ rfl rfl hl.1 rfl (lv_room (Nat.le_of_ble_eq_true rfl)) dX6_waiting_19 ⟨Nat.zero_le _, Nat.zero_le _⟩) hS (fun q _ h => h.elim) (fun q h => h.elim) (fun r_4 uu t H_4 locs_4 ht hvm hw hB hz1 hk1 hS => ?_)
      have hP := hP.same hk1
      obtain rfl : r_4 = (bI (inB z 0 1)) := hw
      refine lv_if_ne (tgt := 29) hx hb dX6_waiting_22 (by decide) (fun c_5 => ?_) (fun c_5 => ?_)
      · rw [hB2] at c_5; exact absurd rfl c_5
      · refine lv_iconst (v := 2) hx hb dX6_waiting_25 (by decide) ?_
        refine lv_goto (tgt := 30) hx hb dX6_waiting_26 (by decide) ?_
        refine va_calli (va_runV (As := [.int 2]) (rest := []) ⟨hx, hb, hml, hown, hts⟩ (c_X6_holds l E g (mdE nb va se rv) th aa sv ke tx ln ro ai wr dg 2) (cwV 1 hts gX6_waiting_X6_holds rfl rfl rfl (by decide +kernel) ⟨Nat.le_of_ble_eq_true rfl, Nat.le_of_ble_eq_true rfl⟩) ⟨wS.blind, (w_recv hK hP 0 (by decide) rfl (ci := 6) rfl), fun U hU hW => wS.go hP hK hI hU hW⟩ rfl rfl hl.1 rfl (lv_room (Nat.le_of_ble_eq_true rfl)) dX6_waiting_30 ⟨Nat.zero_le _, Nat.zero_le _⟩) hS (fun q _ h => h) (fun q h => h) (fun r_6 uu t H_6 locs_6 ht hvm hw hB hz1 hk1 hS => ?_)
        rw [ht] at hB
        have hP : wP E 6 g (moF E g 2 (mdE nb va se rv) aa sv ke tx ln ro ai wr dg) H_6 := hB
        obtain rfl : r_6 = 0 := hw
        refine lv_if_eq (tgt := 46) hx hb dX6_waiting_33 (by decide) (fun c_7 => ?_) (fun c_7 => ?_)
        · refine lv_iconst (v := 0) hx hb dX6_waiting_46 (by decide) ?_
          exact W.iret (v := 0) hx hb hr (fun t ht hW => ⟨⟨_, (), rfl, rfl, (by show MOB E g 2 ln tx nb va se rc ke hs (t.heap); rw [ht]; exact ⟨sv, _, _, _, ⟨_, _, _, hP, hrv⟩, hsv, hke, hln, hnb2, hnb⟩)⟩, hS.F ht⟩) hS.2.2 dX6_waiting_47
        · exact absurd rfl c_7
  · rw [hB1] at c_2; exact absurd c_2 (by decide)
set_option maxHeartbeats 4000000 in
set_option maxRecDepth 100000 in
theorem c_X6_count_ok (l : Launch) (E : wE) (g : Nat → Nat) (th : Int32) (ln : Nat) (tx : Nat → Int32) (nb : Nat) (va : Nat → Int32) (se : Int32) (rc : Nat → MR) (ke : Nat) (hs : Nat → MS) (j : Nat) (hj6 : j < 6) : Met l yX6_count wsX6_count ({ frames := 4, cells := 0, slots := 0, locals := 86 }) (va_Pc [.ref ((g 0)), .int (nI j)] (wS E 6 g (MOB E g th ln tx nb va se rc ke hs))) (va_Qi (fun (r : Int32) (_ : Unit) => r = ctM nb va se rc ke j) (fun _ t => MOB E g 0 ln tx nb va se rc ke hs (t.heap)) (wF 6 g)) 0 0 (wF 6 g) := by
  refine Met.ofW (cc := cX6_count) (maxL := 2) (ret := (some .int)) (by decide) rfl ?_
  intro p e s m args below meth c s₁ B hml hv
  obtain ⟨rfl, ⟨sv, ai, wr, dg, ⟨aa, ro, rv, hP, hrv⟩, hsv, hke, hln, hnb2, hnb⟩, hK, hI⟩ := hv
  have hx := B.exec
  have hb := B.bytes
  have hr := B.returns
  have hts := atoms_spec (ws := wsX6_count) B.pre
  have hown : s.vm.findClass RX6 = some m.cls := findClass_of_methodNamed B.named
  have hlocks := B.notSynchronized
  have hS : va_S (wF 6 g) s.heap s.heap [] := va_S.rf
  have hA : ∀ k, k < 6 → (wF 6 g) (g k) := wF_in
  have hl := lv_entry ([.ref ((g 0)), .int (nI j)]) (n := 2) (Nat.le_of_ble_eq_true rfl)
  rw [lg_entry_eq]
  generalize (lg_sl ([.ref ((g 0)), .int (nI j)]) ++ List.replicate (2 - (lg_sl ([.ref ((g 0)), .int (nI j)])).length) Slot.unset).toArray = ls at hl ⊢
  have hl : lv_has ls 2 [(0, .ref ((g 0))), (1, .int (nI j))] := hl
  have hbN := hnb
  have hB1 : inB (nI j) 0 5 = true := inB_t (n := j) (a := 0) (b := 5) rfl rfl rfl (by omega) (by omega) (by omega)
  refine lv_aload_n hx hb dX6_count_0 rfl (lv_at hl 0 rfl) ?_
  refine lv_iload_n hx hb dX6_count_1 rfl (lv_at hl 1 rfl) ?_
  refine lv_iconst (v := 0) hx hb dX6_count_2 (by decide) ?_
  refine lv_iconst (v := 5) hx hb dX6_count_3 (by decide) ?_
  refine va_calli (va_runS (As := [.int (nI j), .int 0, .int 5]) (rest := [.ref ((g 0))]) ⟨hx, hb, hml, hown, hts⟩ (c_X6_in l (nI j) 0 5) (va_cwS 3 hts gX6_count_X6_in rfl rfl rfl (by decide +kernel) ⟨Nat.le_of_ble_eq_true rfl, Nat.le_of_ble_eq_true rfl⟩) ⟨wU_blind, fun U hU hW => ⟨rfl, trivial⟩⟩ rfl rfl hl.1 rfl (lv_room (Nat.le_of_ble_eq_true rfl)) dX6_count_4 ⟨Nat.zero_le _, Nat.zero_le _⟩) hS (fun q _ h => h.elim) (fun q h => h.elim) (fun r_1 uu t H_1 locs_1 ht hvm hw hB hz1 hk1 hS => ?_)
  have hP := hP.same hk1
  obtain rfl : r_1 = (bI (inB (nI j) 0 5)) := hw
  refine lv_if_eq (tgt := 14) hx hb dX6_count_7 (by decide) (fun c_2 => ?_) (fun c_2 => ?_)
  · rw [hB1] at c_2; exact absurd c_2 (by decide)
  · refine lv_iconst (v := 0) hx hb dX6_count_10 (by decide) ?_
    refine lv_goto (tgt := 15) hx hb dX6_count_11 (by decide) ?_
    refine va_calli (va_runV (As := [.int 0]) (rest := []) ⟨hx, hb, hml, hown, hts⟩ (c_X6_holds l E g (mdE nb va se rv) th aa sv ke tx ln ro ai wr dg 0) (cwV 1 hts gX6_count_X6_holds rfl rfl rfl (by decide +kernel) ⟨Nat.le_of_ble_eq_true rfl, Nat.le_of_ble_eq_true rfl⟩) ⟨wS.blind, (w_recv hK hP 0 (by decide) rfl (ci := 6) rfl), fun U hU hW => wS.go hP hK hI hU hW⟩ rfl rfl hl.1 rfl (lv_room (Nat.le_of_ble_eq_true rfl)) dX6_count_15 ⟨Nat.zero_le _, Nat.zero_le _⟩) hS (fun q _ h => h) (fun q h => h) (fun r_3 uu t H_3 locs_3 ht hvm hw hB hz1 hk1 hS => ?_)
    rw [ht] at hB
    have hP : wP E 6 g (moF E g 0 (mdE nb va se rv) aa sv ke tx ln ro ai wr dg) H_3 := hB
    obtain rfl : r_3 = 1 := hw
    refine lv_if_eq (tgt := 29) hx hb dX6_count_18 (by decide) (fun c_4 => ?_) (fun c_4 => ?_)
    · exact absurd c_4 (by decide)
    · refine lv_aload_n hx hb dX6_count_21 rfl (lv_at hl 0 rfl) ?_
      refine lv_iload_n hx hb dX6_count_22 rfl (lv_at hl 1 rfl) ?_
      refine va_calli (va_runV (As := [.int (nI j)]) (rest := []) ⟨hx, hb, hml, hown, hts⟩ (c_X6_counted l E g 0 sv ke tx ln ai wr dg nb va se rc j (by omega) hnb) (cwV 1 hts gX6_count_X6_counted rfl rfl rfl (by decide +kernel) ⟨Nat.le_of_ble_eq_true rfl, Nat.le_of_ble_eq_true rfl⟩) ⟨wS.blind, (w_recv hK hP 0 (by decide) rfl (ci := 6) rfl), fun U hU hW => wS.go ⟨_, _, _, hP, hrv⟩ hK hI hU hW⟩ rfl rfl hl.1 rfl (lv_room (Nat.le_of_ble_eq_true rfl)) dX6_count_23 ⟨Nat.zero_le _, Nat.zero_le _⟩) hS (fun q _ h => h) (fun q h => h) (fun r_5 uu t H_5 locs_5 ht hvm hw hB hz1 hk1 hS => ?_)
      rw [ht] at hB
      obtain ⟨aa_5, ro_5, rv_5, hP, hrv_5⟩ := hB
      have hP : wP E 6 g (moF E g 0 (mdE nb va se rv_5) aa_5 sv ke tx ln ro_5 ai wr dg) H_5 := hP
      obtain rfl : r_5 = (ctM nb va se rc ke j) := hw
      refine lv_goto (tgt := 30) hx hb dX6_count_26 (by decide) ?_
      exact W.iret (v := (ctM nb va se rc ke j)) hx hb hr (fun t ht hW => ⟨⟨_, (), rfl, rfl, (by show MOB E g 0 ln tx nb va se rc ke hs (t.heap); rw [ht]; exact ⟨sv, _, _, _, ⟨_, _, _, hP, hrv_5⟩, hsv, hke, hln, hnb2, hnb⟩)⟩, hS.F ht⟩) hS.2.2 dX6_count_30
set_option maxHeartbeats 4000000 in
set_option maxRecDepth 100000 in
theorem c_X6_count_no (l : Launch) (E : wE) (g : Nat → Nat) (th : Int32) (ln : Nat) (tx : Nat → Int32) (nb : Nat) (va : Nat → Int32) (se : Int32) (rc : Nat → MR) (ke : Nat) (hs : Nat → MS) (x : Int32) (hB1 : inB x 0 5 = false) : Met l yX6_count wsX6_count ({ frames := 4, cells := 0, slots := 0, locals := 86 }) (va_Pc [.ref ((g 0)), .int x] (wS E 6 g (MOB E g th ln tx nb va se rc ke hs))) (va_Qi (fun (r : Int32) (_ : Unit) => r = 0) (fun _ t => MOB E g 1 ln tx nb va se rc ke hs (t.heap)) (wF 6 g)) 0 0 (wF 6 g) := by
  refine Met.ofW (cc := cX6_count) (maxL := 2) (ret := (some .int)) (by decide) rfl ?_
  intro p e s m args below meth c s₁ B hml hv
  obtain ⟨rfl, ⟨sv, ai, wr, dg, ⟨aa, ro, rv, hP, hrv⟩, hsv, hke, hln, hnb2, hnb⟩, hK, hI⟩ := hv
  have hx := B.exec
  have hb := B.bytes
  have hr := B.returns
  have hts := atoms_spec (ws := wsX6_count) B.pre
  have hown : s.vm.findClass RX6 = some m.cls := findClass_of_methodNamed B.named
  have hlocks := B.notSynchronized
  have hS : va_S (wF 6 g) s.heap s.heap [] := va_S.rf
  have hA : ∀ k, k < 6 → (wF 6 g) (g k) := wF_in
  have hl := lv_entry ([.ref ((g 0)), .int x]) (n := 2) (Nat.le_of_ble_eq_true rfl)
  rw [lg_entry_eq]
  generalize (lg_sl ([.ref ((g 0)), .int x]) ++ List.replicate (2 - (lg_sl ([.ref ((g 0)), .int x])).length) Slot.unset).toArray = ls at hl ⊢
  have hl : lv_has ls 2 [(0, .ref ((g 0))), (1, .int x)] := hl
  have hbN := hnb
  refine lv_aload_n hx hb dX6_count_0 rfl (lv_at hl 0 rfl) ?_
  refine lv_iload_n hx hb dX6_count_1 rfl (lv_at hl 1 rfl) ?_
  refine lv_iconst (v := 0) hx hb dX6_count_2 (by decide) ?_
  refine lv_iconst (v := 5) hx hb dX6_count_3 (by decide) ?_
  refine va_calli (va_runS (As := [.int x, .int 0, .int 5]) (rest := [.ref ((g 0))]) ⟨hx, hb, hml, hown, hts⟩ (c_X6_in l x 0 5) (va_cwS 3 hts gX6_count_X6_in rfl rfl rfl (by decide +kernel) ⟨Nat.le_of_ble_eq_true rfl, Nat.le_of_ble_eq_true rfl⟩) ⟨wU_blind, fun U hU hW => ⟨rfl, trivial⟩⟩ rfl rfl hl.1 rfl (lv_room (Nat.le_of_ble_eq_true rfl)) dX6_count_4 ⟨Nat.zero_le _, Nat.zero_le _⟩) hS (fun q _ h => h.elim) (fun q h => h.elim) (fun r_1 uu t H_1 locs_1 ht hvm hw hB hz1 hk1 hS => ?_)
  have hP := hP.same hk1
  obtain rfl : r_1 = (bI (inB x 0 5)) := hw
  refine lv_if_eq (tgt := 14) hx hb dX6_count_7 (by decide) (fun c_2 => ?_) (fun c_2 => ?_)
  · refine lv_iconst (v := 1) hx hb dX6_count_14 (by decide) ?_
    refine va_calli (va_runV (As := [.int 1]) (rest := []) ⟨hx, hb, hml, hown, hts⟩ (c_X6_holds l E g (mdE nb va se rv) th aa sv ke tx ln ro ai wr dg 1) (cwV 1 hts gX6_count_X6_holds rfl rfl rfl (by decide +kernel) ⟨Nat.le_of_ble_eq_true rfl, Nat.le_of_ble_eq_true rfl⟩) ⟨wS.blind, (w_recv hK hP 0 (by decide) rfl (ci := 6) rfl), fun U hU hW => wS.go hP hK hI hU hW⟩ rfl rfl hl.1 rfl (lv_room (Nat.le_of_ble_eq_true rfl)) dX6_count_15 ⟨Nat.zero_le _, Nat.zero_le _⟩) hS (fun q _ h => h) (fun q h => h) (fun r_3 uu t H_3 locs_3 ht hvm hw hB hz1 hk1 hS => ?_)
    rw [ht] at hB
    have hP : wP E 6 g (moF E g 1 (mdE nb va se rv) aa sv ke tx ln ro ai wr dg) H_3 := hB
    obtain rfl : r_3 = 0 := hw
    refine lv_if_eq (tgt := 29) hx hb dX6_count_18 (by decide) (fun c_4 => ?_) (fun c_4 => ?_)
    · refine lv_iconst (v := 0) hx hb dX6_count_29 (by decide) ?_
      exact W.iret (v := 0) hx hb hr (fun t ht hW => ⟨⟨_, (), rfl, rfl, (by show MOB E g 1 ln tx nb va se rc ke hs (t.heap); rw [ht]; exact ⟨sv, _, _, _, ⟨_, _, _, hP, hrv⟩, hsv, hke, hln, hnb2, hnb⟩)⟩, hS.F ht⟩) hS.2.2 dX6_count_30
    · exact absurd rfl c_4
  · rw [hB1] at c_2; exact absurd rfl c_2
set_option maxHeartbeats 4000000 in
set_option maxRecDepth 100000 in
theorem c_X6_block_ok (l : Launch) (E : wE) (g : Nat → Nat) (th : Int32) (ln : Nat) (tx : Nat → Int32) (nb : Nat) (va : Nat → Int32) (se : Int32) (rc : Nat → MR) (ke : Nat) (hs : Nat → MS) (b : Nat) (hb9 : b < nb) : Met l yX6_block wsX6_block ({ frames := 2, cells := 0, slots := 0, locals := 43 }) (va_Pc [.ref ((g 0)), .int (nI b)] (wS E 6 g (MOB E g th ln tx nb va se rc ke hs))) (va_Qi (fun (r : Int32) (_ : Unit) => r = va b) (fun _ t => MOB E g 0 ln tx nb va se rc ke hs (t.heap)) (wF 6 g)) 0 0 (wF 6 g) := by
  refine Met.ofW (cc := cX6_block) (maxL := 2) (ret := (some .int)) (by decide) rfl ?_
  intro p e s m args below meth c s₁ B hml hv
  obtain ⟨rfl, ⟨sv, ai, wr, dg, ⟨aa, ro, rv, hP, hrv⟩, hsv, hke, hln, hnb2, hnb⟩, hK, hI⟩ := hv
  have hx := B.exec
  have hb := B.bytes
  have hr := B.returns
  have hts := atoms_spec (ws := wsX6_block) B.pre
  have hown : s.vm.findClass RX6 = some m.cls := findClass_of_methodNamed B.named
  have hlocks := B.notSynchronized
  have hS : va_S (wF 6 g) s.heap s.heap [] := va_S.rf
  have hin6 : ∀ w ∈ wsX60, w ∈ wsX6_block := by decide +kernel
  have hA : ∀ k, k < 6 → (wF 6 g) (g k) := wF_in
  have hl := lv_entry ([.ref ((g 0)), .int (nI b)]) (n := 2) (Nat.le_of_ble_eq_true rfl)
  rw [lg_entry_eq]
  generalize (lg_sl ([.ref ((g 0)), .int (nI b)]) ++ List.replicate (2 - (lg_sl ([.ref ((g 0)), .int (nI b)])).length) Slot.unset).toArray = ls at hl ⊢
  have hl : lv_has ls 2 [(0, .ref ((g 0))), (1, .int (nI b))] := hl
  have hbN := hnb
  have hB1 : inB (nI b) 0 (nI (nb - 1)) = true := inB_t (n := b) (a := 0) (b := (nb - 1)) rfl rfl rfl (by omega) (by omega) (by omega)
  refine lv_aload_n hx hb dX6_block_0 rfl (lv_at hl 0 rfl) ?_
  refine lv_aload_n hx hb dX6_block_1 rfl (lv_at hl 0 rfl) ?_
  refine lv_iload_n hx hb dX6_block_2 rfl (lv_at hl 1 rfl) ?_
  refine va_calli (va_runV (As := [.int (nI b)]) (rest := [.ref ((g 0))]) ⟨hx, hb, hml, hown, hts⟩ (c_X6_isBlock l E g th aa sv ke tx ln ro ai wr dg nb va se rv (nI b) hnb2 hnb) (cwV 1 hts gX6_block_X6_isBlock rfl rfl rfl (by decide +kernel) ⟨Nat.le_of_ble_eq_true rfl, Nat.le_of_ble_eq_true rfl⟩) ⟨wS.blind, (w_recv hK hP 0 (by decide) rfl (ci := 6) rfl), fun U hU hW => wS.go hP hK hI hU hW⟩ rfl rfl hl.1 rfl (lv_room (Nat.le_of_ble_eq_true rfl)) dX6_block_3 ⟨Nat.zero_le _, Nat.zero_le _⟩) hS (fun q _ h => h.elim) (fun q h => h.elim) (fun r_1 uu t H_1 locs_1 ht hvm hw hB hz1 hk1 hS => ?_)
  have hP := hP.same hk1
  obtain rfl : r_1 = (bI (inB (nI b) 0 (nI (nb - 1)))) := hw
  refine lv_if_eq (tgt := 13) hx hb dX6_block_6 (by decide) (fun c_2 => ?_) (fun c_2 => ?_)
  · rw [hB1] at c_2; exact absurd c_2 (by decide)
  · refine lv_iconst (v := 0) hx hb dX6_block_9 (by decide) ?_
    refine lv_goto (tgt := 14) hx hb dX6_block_10 (by decide) ?_
    refine va_calli (va_runV (As := [.int 0]) (rest := []) ⟨hx, hb, hml, hown, hts⟩ (c_X6_holds l E g (mdE nb va se rv) th aa sv ke tx ln ro ai wr dg 0) (cwV 1 hts gX6_block_X6_holds rfl rfl rfl (by decide +kernel) ⟨Nat.le_of_ble_eq_true rfl, Nat.le_of_ble_eq_true rfl⟩) ⟨wS.blind, (w_recv hK hP 0 (by decide) rfl (ci := 6) rfl), fun U hU hW => wS.go hP hK hI hU hW⟩ rfl rfl hl.1 rfl (lv_room (Nat.le_of_ble_eq_true rfl)) dX6_block_14 ⟨Nat.zero_le _, Nat.zero_le _⟩) hS (fun q _ h => h) (fun q h => h) (fun r_3 uu t H_3 locs_3 ht hvm hw hB hz1 hk1 hS => ?_)
    rw [ht] at hB
    have hP : wP E 6 g (moF E g 0 (mdE nb va se rv) aa sv ke tx ln ro ai wr dg) H_3 := hB
    obtain rfl : r_3 = 1 := hw
    refine lv_if_eq (tgt := 31) hx hb dX6_block_17 (by decide) (fun c_4 => ?_) (fun c_4 => ?_)
    · exact absurd c_4 (by decide)
    · refine lv_aload_n hx hb dX6_block_20 rfl (lv_at hl 0 rfl) ?_
      refine w_get (C := RX6) (T := TX6) (N := 11) (ci := 6) (v := .ref ((g 1))) hx hb hts hin6 hown hK hP 0 (by decide) rfl rfl 1 (by decide) (hts (.fieldLink RX6 7 "MixedBlocksModel" "s" "[I") (List.mem_of_getElem? (i := 1) rfl)) (fun _ h9 => h9) rfl dX6_block_21 ?_
      refine lv_iconst (v := 2) hx hb dX6_block_24 (by decide) ?_
      refine lv_iload_n hx hb dX6_block_25 rfl (lv_at hl 1 rfl) ?_
      refine lv_iadd hx hb dX6_block_26 ?_
      rw [show 2 + (nI b) = nI (2 + b) from nI_add 2 b]
      refine w_iald hx hb hK hP 1 (by decide) rfl (vp_in_nI (by omega) (by decide)) dX6_block_27 ?_
      rw [nI_clamp (by omega), mdE_v (by omega)]
      refine lv_goto (tgt := 32) hx hb dX6_block_28 (by decide) ?_
      exact W.iret (v := (va b)) hx hb hr (fun t ht hW => ⟨⟨_, (), rfl, rfl, (by show MOB E g 0 ln tx nb va se rc ke hs (t.heap); rw [ht]; exact ⟨sv, _, _, _, ⟨_, _, _, hP, hrv⟩, hsv, hke, hln, hnb2, hnb⟩)⟩, hS.F ht⟩) hS.2.2 dX6_block_32
set_option maxHeartbeats 4000000 in
set_option maxRecDepth 100000 in
theorem c_X6_block_no (l : Launch) (E : wE) (g : Nat → Nat) (th : Int32) (ln : Nat) (tx : Nat → Int32) (nb : Nat) (va : Nat → Int32) (se : Int32) (rc : Nat → MR) (ke : Nat) (hs : Nat → MS) (x : Int32) (hB1 : inB x 0 (nI (nb - 1)) = false) : Met l yX6_block wsX6_block ({ frames := 2, cells := 0, slots := 0, locals := 43 }) (va_Pc [.ref ((g 0)), .int x] (wS E 6 g (MOB E g th ln tx nb va se rc ke hs))) (va_Qi (fun (r : Int32) (_ : Unit) => r = 0) (fun _ t => MOB E g 1 ln tx nb va se rc ke hs (t.heap)) (wF 6 g)) 0 0 (wF 6 g) := by
  refine Met.ofW (cc := cX6_block) (maxL := 2) (ret := (some .int)) (by decide) rfl ?_
  intro p e s m args below meth c s₁ B hml hv
  obtain ⟨rfl, ⟨sv, ai, wr, dg, ⟨aa, ro, rv, hP, hrv⟩, hsv, hke, hln, hnb2, hnb⟩, hK, hI⟩ := hv
  have hx := B.exec
  have hb := B.bytes
  have hr := B.returns
  have hts := atoms_spec (ws := wsX6_block) B.pre
  have hown : s.vm.findClass RX6 = some m.cls := findClass_of_methodNamed B.named
  have hlocks := B.notSynchronized
  have hS : va_S (wF 6 g) s.heap s.heap [] := va_S.rf
  have hA : ∀ k, k < 6 → (wF 6 g) (g k) := wF_in
  have hl := lv_entry ([.ref ((g 0)), .int x]) (n := 2) (Nat.le_of_ble_eq_true rfl)
  rw [lg_entry_eq]
  generalize (lg_sl ([.ref ((g 0)), .int x]) ++ List.replicate (2 - (lg_sl ([.ref ((g 0)), .int x])).length) Slot.unset).toArray = ls at hl ⊢
  have hl : lv_has ls 2 [(0, .ref ((g 0))), (1, .int x)] := hl
  have hbN := hnb
  refine lv_aload_n hx hb dX6_block_0 rfl (lv_at hl 0 rfl) ?_
  refine lv_aload_n hx hb dX6_block_1 rfl (lv_at hl 0 rfl) ?_
  refine lv_iload_n hx hb dX6_block_2 rfl (lv_at hl 1 rfl) ?_
  refine va_calli (va_runV (As := [.int x]) (rest := [.ref ((g 0))]) ⟨hx, hb, hml, hown, hts⟩ (c_X6_isBlock l E g th aa sv ke tx ln ro ai wr dg nb va se rv x hnb2 hnb) (cwV 1 hts gX6_block_X6_isBlock rfl rfl rfl (by decide +kernel) ⟨Nat.le_of_ble_eq_true rfl, Nat.le_of_ble_eq_true rfl⟩) ⟨wS.blind, (w_recv hK hP 0 (by decide) rfl (ci := 6) rfl), fun U hU hW => wS.go hP hK hI hU hW⟩ rfl rfl hl.1 rfl (lv_room (Nat.le_of_ble_eq_true rfl)) dX6_block_3 ⟨Nat.zero_le _, Nat.zero_le _⟩) hS (fun q _ h => h.elim) (fun q h => h.elim) (fun r_1 uu t H_1 locs_1 ht hvm hw hB hz1 hk1 hS => ?_)
  have hP := hP.same hk1
  obtain rfl : r_1 = (bI (inB x 0 (nI (nb - 1)))) := hw
  refine lv_if_eq (tgt := 13) hx hb dX6_block_6 (by decide) (fun c_2 => ?_) (fun c_2 => ?_)
  · refine lv_iconst (v := 1) hx hb dX6_block_13 (by decide) ?_
    refine va_calli (va_runV (As := [.int 1]) (rest := []) ⟨hx, hb, hml, hown, hts⟩ (c_X6_holds l E g (mdE nb va se rv) th aa sv ke tx ln ro ai wr dg 1) (cwV 1 hts gX6_block_X6_holds rfl rfl rfl (by decide +kernel) ⟨Nat.le_of_ble_eq_true rfl, Nat.le_of_ble_eq_true rfl⟩) ⟨wS.blind, (w_recv hK hP 0 (by decide) rfl (ci := 6) rfl), fun U hU hW => wS.go hP hK hI hU hW⟩ rfl rfl hl.1 rfl (lv_room (Nat.le_of_ble_eq_true rfl)) dX6_block_14 ⟨Nat.zero_le _, Nat.zero_le _⟩) hS (fun q _ h => h) (fun q h => h) (fun r_3 uu t H_3 locs_3 ht hvm hw hB hz1 hk1 hS => ?_)
    rw [ht] at hB
    have hP : wP E 6 g (moF E g 1 (mdE nb va se rv) aa sv ke tx ln ro ai wr dg) H_3 := hB
    obtain rfl : r_3 = 0 := hw
    refine lv_if_eq (tgt := 31) hx hb dX6_block_17 (by decide) (fun c_4 => ?_) (fun c_4 => ?_)
    · refine lv_iconst (v := 0) hx hb dX6_block_31 (by decide) ?_
      exact W.iret (v := 0) hx hb hr (fun t ht hW => ⟨⟨_, (), rfl, rfl, (by show MOB E g 1 ln tx nb va se rc ke hs (t.heap); rw [ht]; exact ⟨sv, _, _, _, ⟨_, _, _, hP, hrv⟩, hsv, hke, hln, hnb2, hnb⟩)⟩, hS.F ht⟩) hS.2.2 dX6_block_32
    · exact absurd rfl c_4
  · rw [hB1] at c_2; exact absurd rfl c_2
set_option maxHeartbeats 4000000 in
set_option maxRecDepth 100000 in
theorem c_X6_ifGot_ok (l : Launch) (E : wE) (g : Nat → Nat) (th : Int32) (ln : Nat) (tx : Nat → Int32) (nb : Nat) (va : Nat → Int32) (se : Int32) (rc : Nat → MR) (ke : Nat) (hs : Nat → MS) (u : Nat) (hu3 : u < 3) (k0 j : Nat) (hk0 : k0 < 10000) (hj2 : j < 2) : Met l yX6_ifGot wsX6_ifGot ({ frames := 5, cells := 0, slots := 0, locals := 118 }) (va_Pc [.ref ((g 0)), .int (nI u), .int (nI k0), .int (nI j)] (wS E 6 g (MOB E g th ln tx nb va se rc ke hs))) (va_Qi (fun (r : Int32) (_ : Unit) => r = (if j = 0 then gtv (mskM nb k0) (rc u) else rnkM (getM (mskM nb k0) (rc u).2))) (fun _ t => MOB E g 0 ln tx nb va se rc ke hs (t.heap)) (wF 6 g)) 0 0 (wF 6 g) := by
  refine Met.ofW (cc := cX6_ifGot) (maxL := 4) (ret := (some .int)) (by decide) rfl ?_
  intro p e s m args below meth c s₁ B hml hv
  obtain ⟨rfl, ⟨sv, ai, wr, dg, ⟨aa, ro, rv, hP, hrv⟩, hsv, hke, hln, hnb2, hnb⟩, hK, hI⟩ := hv
  have hx := B.exec
  have hb := B.bytes
  have hr := B.returns
  have hts := atoms_spec (ws := wsX6_ifGot) B.pre
  have hown : s.vm.findClass RX6 = some m.cls := findClass_of_methodNamed B.named
  have hlocks := B.notSynchronized
  have hS : va_S (wF 6 g) s.heap s.heap [] := va_S.rf
  have hA : ∀ k, k < 6 → (wF 6 g) (g k) := wF_in
  have hl := lv_entry ([.ref ((g 0)), .int (nI u), .int (nI k0), .int (nI j)]) (n := 4) (Nat.le_of_ble_eq_true rfl)
  rw [lg_entry_eq]
  generalize (lg_sl ([.ref ((g 0)), .int (nI u), .int (nI k0), .int (nI j)]) ++ List.replicate (4 - (lg_sl ([.ref ((g 0)), .int (nI u), .int (nI k0), .int (nI j)])).length) Slot.unset).toArray = ls at hl ⊢
  have hl : lv_has ls 4 [(0, .ref ((g 0))), (1, .int (nI u)), (2, .int (nI k0)), (3, .int (nI j))] := hl
  have hbN := hnb
  have hB1 : inB (nI u) 0 2 = true := inB_t (n := u) (a := 0) (b := 2) rfl rfl rfl (by omega) (by omega) (by omega)
  have hB2 : inB (nI k0) 0 9999 = true := inB_t (n := k0) (a := 0) (b := 9999) rfl rfl rfl (by omega) (by omega) (by omega)
  have hB3 : inB (nI j) 0 1 = true := inB_t (n := j) (a := 0) (b := 1) rfl rfl rfl (by omega) (by omega) (by omega)
  refine lv_aload_n hx hb dX6_ifGot_0 rfl (lv_at hl 0 rfl) ?_
  refine lv_iload_n hx hb dX6_ifGot_1 rfl (lv_at hl 1 rfl) ?_
  refine va_calli (va_runS (As := [.int (nI u)]) (rest := [.ref ((g 0))]) ⟨hx, hb, hml, hown, hts⟩ (c_X6_isReceiver l (nI u)) (va_cwS 1 hts gX6_ifGot_X6_isReceiver rfl rfl rfl (by decide +kernel) ⟨Nat.le_of_ble_eq_true rfl, Nat.le_of_ble_eq_true rfl⟩) ⟨wU_blind, fun U hU hW => ⟨rfl, trivial⟩⟩ rfl rfl hl.1 rfl (lv_room (Nat.le_of_ble_eq_true rfl)) dX6_ifGot_2 ⟨Nat.zero_le _, Nat.zero_le _⟩) hS (fun q _ h => h.elim) (fun q h => h.elim) (fun r_1 uu t H_1 locs_1 ht hvm hw hB hz1 hk1 hS => ?_)
  have hP := hP.same hk1
  obtain rfl : r_1 = (bI (inB (nI u) 0 2)) := hw
  refine lv_if_ne (tgt := 12) hx hb dX6_ifGot_5 (by decide) (fun c_2 => ?_) (fun c_2 => ?_)
  · refine lv_iload_n hx hb dX6_ifGot_12 rfl (lv_at hl 2 rfl) ?_
    refine va_calli (va_runS (As := [.int (nI k0)]) (rest := [.ref ((g 0))]) ⟨hx, hb, hml, hown, hts⟩ (c_X6_isMix l (nI k0)) (va_cwS 1 hts gX6_ifGot_X6_isMix rfl rfl rfl (by decide +kernel) ⟨Nat.le_of_ble_eq_true rfl, Nat.le_of_ble_eq_true rfl⟩) ⟨wU_blind, fun U hU hW => ⟨rfl, trivial⟩⟩ rfl rfl hl.1 rfl (lv_room (Nat.le_of_ble_eq_true rfl)) dX6_ifGot_13 ⟨Nat.zero_le _, Nat.zero_le _⟩) hS (fun q _ h => h.elim) (fun q h => h.elim) (fun r_3 uu t H_3 locs_3 ht hvm hw hB hz1 hk1 hS => ?_)
    have hP := hP.same hk1
    obtain rfl : r_3 = (bI (inB (nI k0) 0 9999)) := hw
    refine lv_if_eq (tgt := 28) hx hb dX6_ifGot_16 (by decide) (fun c_4 => ?_) (fun c_4 => ?_)
    · rw [hB2] at c_4; exact absurd c_4 (by decide)
    · refine lv_iload_n hx hb dX6_ifGot_19 rfl (lv_at hl 3 rfl) ?_
      refine lv_iconst (v := 0) hx hb dX6_ifGot_20 (by decide) ?_
      refine lv_iconst (v := 1) hx hb dX6_ifGot_21 (by decide) ?_
      refine va_calli (va_runS (As := [.int (nI j), .int 0, .int 1]) (rest := [.ref ((g 0))]) ⟨hx, hb, hml, hown, hts⟩ (c_X6_in l (nI j) 0 1) (va_cwS 3 hts gX6_ifGot_X6_in rfl rfl rfl (by decide +kernel) ⟨Nat.le_of_ble_eq_true rfl, Nat.le_of_ble_eq_true rfl⟩) ⟨wU_blind, fun U hU hW => ⟨rfl, trivial⟩⟩ rfl rfl hl.1 rfl (lv_room (Nat.le_of_ble_eq_true rfl)) dX6_ifGot_22 ⟨Nat.zero_le _, Nat.zero_le _⟩) hS (fun q _ h => h.elim) (fun q h => h.elim) (fun r_5 uu t H_5 locs_5 ht hvm hw hB hz1 hk1 hS => ?_)
      have hP := hP.same hk1
      obtain rfl : r_5 = (bI (inB (nI j) 0 1)) := hw
      refine lv_if_ne (tgt := 32) hx hb dX6_ifGot_25 (by decide) (fun c_6 => ?_) (fun c_6 => ?_)
      · refine lv_iconst (v := 0) hx hb dX6_ifGot_32 (by decide) ?_
        refine va_calli (va_runV (As := [.int 0]) (rest := []) ⟨hx, hb, hml, hown, hts⟩ (c_X6_holds l E g (mdE nb va se rv) th aa sv ke tx ln ro ai wr dg 0) (cwV 1 hts gX6_ifGot_X6_holds rfl rfl rfl (by decide +kernel) ⟨Nat.le_of_ble_eq_true rfl, Nat.le_of_ble_eq_true rfl⟩) ⟨wS.blind, (w_recv hK hP 0 (by decide) rfl (ci := 6) rfl), fun U hU hW => wS.go hP hK hI hU hW⟩ rfl rfl hl.1 rfl (lv_room (Nat.le_of_ble_eq_true rfl)) dX6_ifGot_33 ⟨Nat.zero_le _, Nat.zero_le _⟩) hS (fun q _ h => h) (fun q h => h) (fun r_7 uu t H_7 locs_7 ht hvm hw hB hz1 hk1 hS => ?_)
        rw [ht] at hB
        have hP : wP E 6 g (moF E g 0 (mdE nb va se rv) aa sv ke tx ln ro ai wr dg) H_7 := hB
        obtain rfl : r_7 = 1 := hw
        refine lv_if_eq (tgt := 49) hx hb dX6_ifGot_36 (by decide) (fun c_8 => ?_) (fun c_8 => ?_)
        · exact absurd c_8 (by decide)
        · refine lv_aload_n hx hb dX6_ifGot_39 rfl (lv_at hl 0 rfl) ?_
          refine lv_iload_n hx hb dX6_ifGot_40 rfl (lv_at hl 1 rfl) ?_
          refine lv_iload_n hx hb dX6_ifGot_41 rfl (lv_at hl 2 rfl) ?_
          refine lv_iload_n hx hb dX6_ifGot_42 rfl (lv_at hl 3 rfl) ?_
          refine va_calli (va_runV (As := [.int (nI u), .int (nI k0), .int (nI j)]) (rest := []) ⟨hx, hb, hml, hown, hts⟩ (c_X6_got l E g 0 sv ke tx ln ai wr dg nb va se rc u (by omega) k0 j (by omega) (by omega) hnb2 hnb) (cwV 3 hts gX6_ifGot_X6_got rfl rfl rfl (by decide +kernel) ⟨Nat.le_of_ble_eq_true rfl, Nat.le_of_ble_eq_true rfl⟩) ⟨wS.blind, (w_recv hK hP 0 (by decide) rfl (ci := 6) rfl), fun U hU hW => wS.go ⟨_, _, _, hP, hrv⟩ hK hI hU hW⟩ rfl rfl hl.1 rfl (lv_room (Nat.le_of_ble_eq_true rfl)) dX6_ifGot_43 ⟨Nat.zero_le _, Nat.zero_le _⟩) hS (fun q _ h => h) (fun q h => h) (fun r_9 uu t H_9 locs_9 ht hvm hw hB hz1 hk1 hS => ?_)
          rw [ht] at hB
          obtain ⟨aa_9, ro_9, rv_9, hP, hrv_9⟩ := hB
          have hP : wP E 6 g (moF E g 0 (mdE nb va se rv_9) aa_9 sv ke tx ln ro_9 ai wr dg) H_9 := hP
          obtain rfl : r_9 = (if j = 0 then gtv (mskM nb k0) (rc u) else rnkM (getM (mskM nb k0) (rc u).2)) := hw
          refine lv_goto (tgt := 50) hx hb dX6_ifGot_46 (by decide) ?_
          exact W.iret (v := (if j = 0 then gtv (mskM nb k0) (rc u) else rnkM (getM (mskM nb k0) (rc u).2))) hx hb hr (fun t ht hW => ⟨⟨_, (), rfl, rfl, (by show MOB E g 0 ln tx nb va se rc ke hs (t.heap); rw [ht]; exact ⟨sv, _, _, _, ⟨_, _, _, hP, hrv_9⟩, hsv, hke, hln, hnb2, hnb⟩)⟩, hS.F ht⟩) hS.2.2 dX6_ifGot_50
      · rw [hB3] at c_6; exact absurd c_6 (by decide)
  · rw [hB1] at c_2; exact absurd c_2 (by decide)
set_option maxHeartbeats 4000000 in
set_option maxRecDepth 100000 in
theorem c_X6_ifGot_no1 (l : Launch) (E : wE) (g : Nat → Nat) (th : Int32) (ln : Nat) (tx : Nat → Int32) (nb : Nat) (va : Nat → Int32) (se : Int32) (rc : Nat → MR) (ke : Nat) (hs : Nat → MS) (x y z : Int32) (hB1 : inB x 0 2 = false) : Met l yX6_ifGot wsX6_ifGot ({ frames := 5, cells := 0, slots := 0, locals := 118 }) (va_Pc [.ref ((g 0)), .int x, .int y, .int z] (wS E 6 g (MOB E g th ln tx nb va se rc ke hs))) (va_Qi (fun (r : Int32) (_ : Unit) => r = 0) (fun _ t => MOB E g 1 ln tx nb va se rc ke hs (t.heap)) (wF 6 g)) 0 0 (wF 6 g) := by
  refine Met.ofW (cc := cX6_ifGot) (maxL := 4) (ret := (some .int)) (by decide) rfl ?_
  intro p e s m args below meth c s₁ B hml hv
  obtain ⟨rfl, ⟨sv, ai, wr, dg, ⟨aa, ro, rv, hP, hrv⟩, hsv, hke, hln, hnb2, hnb⟩, hK, hI⟩ := hv
  have hx := B.exec
  have hb := B.bytes
  have hr := B.returns
  have hts := atoms_spec (ws := wsX6_ifGot) B.pre
  have hown : s.vm.findClass RX6 = some m.cls := findClass_of_methodNamed B.named
  have hlocks := B.notSynchronized
  have hS : va_S (wF 6 g) s.heap s.heap [] := va_S.rf
  have hA : ∀ k, k < 6 → (wF 6 g) (g k) := wF_in
  have hl := lv_entry ([.ref ((g 0)), .int x, .int y, .int z]) (n := 4) (Nat.le_of_ble_eq_true rfl)
  rw [lg_entry_eq]
  generalize (lg_sl ([.ref ((g 0)), .int x, .int y, .int z]) ++ List.replicate (4 - (lg_sl ([.ref ((g 0)), .int x, .int y, .int z])).length) Slot.unset).toArray = ls at hl ⊢
  have hl : lv_has ls 4 [(0, .ref ((g 0))), (1, .int x), (2, .int y), (3, .int z)] := hl
  have hbN := hnb
  refine lv_aload_n hx hb dX6_ifGot_0 rfl (lv_at hl 0 rfl) ?_
  refine lv_iload_n hx hb dX6_ifGot_1 rfl (lv_at hl 1 rfl) ?_
  refine va_calli (va_runS (As := [.int x]) (rest := [.ref ((g 0))]) ⟨hx, hb, hml, hown, hts⟩ (c_X6_isReceiver l x) (va_cwS 1 hts gX6_ifGot_X6_isReceiver rfl rfl rfl (by decide +kernel) ⟨Nat.le_of_ble_eq_true rfl, Nat.le_of_ble_eq_true rfl⟩) ⟨wU_blind, fun U hU hW => ⟨rfl, trivial⟩⟩ rfl rfl hl.1 rfl (lv_room (Nat.le_of_ble_eq_true rfl)) dX6_ifGot_2 ⟨Nat.zero_le _, Nat.zero_le _⟩) hS (fun q _ h => h.elim) (fun q h => h.elim) (fun r_1 uu t H_1 locs_1 ht hvm hw hB hz1 hk1 hS => ?_)
  have hP := hP.same hk1
  obtain rfl : r_1 = (bI (inB x 0 2)) := hw
  refine lv_if_ne (tgt := 12) hx hb dX6_ifGot_5 (by decide) (fun c_2 => ?_) (fun c_2 => ?_)
  · rw [hB1] at c_2; exact absurd rfl c_2
  · refine lv_iconst (v := 1) hx hb dX6_ifGot_8 (by decide) ?_
    refine lv_goto (tgt := 33) hx hb dX6_ifGot_9 (by decide) ?_
    refine va_calli (va_runV (As := [.int 1]) (rest := []) ⟨hx, hb, hml, hown, hts⟩ (c_X6_holds l E g (mdE nb va se rv) th aa sv ke tx ln ro ai wr dg 1) (cwV 1 hts gX6_ifGot_X6_holds rfl rfl rfl (by decide +kernel) ⟨Nat.le_of_ble_eq_true rfl, Nat.le_of_ble_eq_true rfl⟩) ⟨wS.blind, (w_recv hK hP 0 (by decide) rfl (ci := 6) rfl), fun U hU hW => wS.go hP hK hI hU hW⟩ rfl rfl hl.1 rfl (lv_room (Nat.le_of_ble_eq_true rfl)) dX6_ifGot_33 ⟨Nat.zero_le _, Nat.zero_le _⟩) hS (fun q _ h => h) (fun q h => h) (fun r_3 uu t H_3 locs_3 ht hvm hw hB hz1 hk1 hS => ?_)
    rw [ht] at hB
    have hP : wP E 6 g (moF E g 1 (mdE nb va se rv) aa sv ke tx ln ro ai wr dg) H_3 := hB
    obtain rfl : r_3 = 0 := hw
    refine lv_if_eq (tgt := 49) hx hb dX6_ifGot_36 (by decide) (fun c_4 => ?_) (fun c_4 => ?_)
    · refine lv_iconst (v := 0) hx hb dX6_ifGot_49 (by decide) ?_
      exact W.iret (v := 0) hx hb hr (fun t ht hW => ⟨⟨_, (), rfl, rfl, (by show MOB E g 1 ln tx nb va se rc ke hs (t.heap); rw [ht]; exact ⟨sv, _, _, _, ⟨_, _, _, hP, hrv⟩, hsv, hke, hln, hnb2, hnb⟩)⟩, hS.F ht⟩) hS.2.2 dX6_ifGot_50
    · exact absurd rfl c_4
set_option maxHeartbeats 4000000 in
set_option maxRecDepth 100000 in
theorem c_X6_ifGot_no2 (l : Launch) (E : wE) (g : Nat → Nat) (th : Int32) (ln : Nat) (tx : Nat → Int32) (nb : Nat) (va : Nat → Int32) (se : Int32) (rc : Nat → MR) (ke : Nat) (hs : Nat → MS) (x y z : Int32) (hB1 : inB x 0 2 = true) (hB2 : inB y 0 9999 = false) : Met l yX6_ifGot wsX6_ifGot ({ frames := 5, cells := 0, slots := 0, locals := 118 }) (va_Pc [.ref ((g 0)), .int x, .int y, .int z] (wS E 6 g (MOB E g th ln tx nb va se rc ke hs))) (va_Qi (fun (r : Int32) (_ : Unit) => r = 0) (fun _ t => MOB E g 2 ln tx nb va se rc ke hs (t.heap)) (wF 6 g)) 0 0 (wF 6 g) := by
  refine Met.ofW (cc := cX6_ifGot) (maxL := 4) (ret := (some .int)) (by decide) rfl ?_
  intro p e s m args below meth c s₁ B hml hv
  obtain ⟨rfl, ⟨sv, ai, wr, dg, ⟨aa, ro, rv, hP, hrv⟩, hsv, hke, hln, hnb2, hnb⟩, hK, hI⟩ := hv
  have hx := B.exec
  have hb := B.bytes
  have hr := B.returns
  have hts := atoms_spec (ws := wsX6_ifGot) B.pre
  have hown : s.vm.findClass RX6 = some m.cls := findClass_of_methodNamed B.named
  have hlocks := B.notSynchronized
  have hS : va_S (wF 6 g) s.heap s.heap [] := va_S.rf
  have hA : ∀ k, k < 6 → (wF 6 g) (g k) := wF_in
  have hl := lv_entry ([.ref ((g 0)), .int x, .int y, .int z]) (n := 4) (Nat.le_of_ble_eq_true rfl)
  rw [lg_entry_eq]
  generalize (lg_sl ([.ref ((g 0)), .int x, .int y, .int z]) ++ List.replicate (4 - (lg_sl ([.ref ((g 0)), .int x, .int y, .int z])).length) Slot.unset).toArray = ls at hl ⊢
  have hl : lv_has ls 4 [(0, .ref ((g 0))), (1, .int x), (2, .int y), (3, .int z)] := hl
  have hbN := hnb
  refine lv_aload_n hx hb dX6_ifGot_0 rfl (lv_at hl 0 rfl) ?_
  refine lv_iload_n hx hb dX6_ifGot_1 rfl (lv_at hl 1 rfl) ?_
  refine va_calli (va_runS (As := [.int x]) (rest := [.ref ((g 0))]) ⟨hx, hb, hml, hown, hts⟩ (c_X6_isReceiver l x) (va_cwS 1 hts gX6_ifGot_X6_isReceiver rfl rfl rfl (by decide +kernel) ⟨Nat.le_of_ble_eq_true rfl, Nat.le_of_ble_eq_true rfl⟩) ⟨wU_blind, fun U hU hW => ⟨rfl, trivial⟩⟩ rfl rfl hl.1 rfl (lv_room (Nat.le_of_ble_eq_true rfl)) dX6_ifGot_2 ⟨Nat.zero_le _, Nat.zero_le _⟩) hS (fun q _ h => h.elim) (fun q h => h.elim) (fun r_1 uu t H_1 locs_1 ht hvm hw hB hz1 hk1 hS => ?_)
  have hP := hP.same hk1
  obtain rfl : r_1 = (bI (inB x 0 2)) := hw
  refine lv_if_ne (tgt := 12) hx hb dX6_ifGot_5 (by decide) (fun c_2 => ?_) (fun c_2 => ?_)
  · refine lv_iload_n hx hb dX6_ifGot_12 rfl (lv_at hl 2 rfl) ?_
    refine va_calli (va_runS (As := [.int y]) (rest := [.ref ((g 0))]) ⟨hx, hb, hml, hown, hts⟩ (c_X6_isMix l y) (va_cwS 1 hts gX6_ifGot_X6_isMix rfl rfl rfl (by decide +kernel) ⟨Nat.le_of_ble_eq_true rfl, Nat.le_of_ble_eq_true rfl⟩) ⟨wU_blind, fun U hU hW => ⟨rfl, trivial⟩⟩ rfl rfl hl.1 rfl (lv_room (Nat.le_of_ble_eq_true rfl)) dX6_ifGot_13 ⟨Nat.zero_le _, Nat.zero_le _⟩) hS (fun q _ h => h.elim) (fun q h => h.elim) (fun r_3 uu t H_3 locs_3 ht hvm hw hB hz1 hk1 hS => ?_)
    have hP := hP.same hk1
    obtain rfl : r_3 = (bI (inB y 0 9999)) := hw
    refine lv_if_eq (tgt := 28) hx hb dX6_ifGot_16 (by decide) (fun c_4 => ?_) (fun c_4 => ?_)
    · refine lv_iconst (v := 2) hx hb dX6_ifGot_28 (by decide) ?_
      refine lv_goto (tgt := 33) hx hb dX6_ifGot_29 (by decide) ?_
      refine va_calli (va_runV (As := [.int 2]) (rest := []) ⟨hx, hb, hml, hown, hts⟩ (c_X6_holds l E g (mdE nb va se rv) th aa sv ke tx ln ro ai wr dg 2) (cwV 1 hts gX6_ifGot_X6_holds rfl rfl rfl (by decide +kernel) ⟨Nat.le_of_ble_eq_true rfl, Nat.le_of_ble_eq_true rfl⟩) ⟨wS.blind, (w_recv hK hP 0 (by decide) rfl (ci := 6) rfl), fun U hU hW => wS.go hP hK hI hU hW⟩ rfl rfl hl.1 rfl (lv_room (Nat.le_of_ble_eq_true rfl)) dX6_ifGot_33 ⟨Nat.zero_le _, Nat.zero_le _⟩) hS (fun q _ h => h) (fun q h => h) (fun r_5 uu t H_5 locs_5 ht hvm hw hB hz1 hk1 hS => ?_)
      rw [ht] at hB
      have hP : wP E 6 g (moF E g 2 (mdE nb va se rv) aa sv ke tx ln ro ai wr dg) H_5 := hB
      obtain rfl : r_5 = 0 := hw
      refine lv_if_eq (tgt := 49) hx hb dX6_ifGot_36 (by decide) (fun c_6 => ?_) (fun c_6 => ?_)
      · refine lv_iconst (v := 0) hx hb dX6_ifGot_49 (by decide) ?_
        exact W.iret (v := 0) hx hb hr (fun t ht hW => ⟨⟨_, (), rfl, rfl, (by show MOB E g 2 ln tx nb va se rc ke hs (t.heap); rw [ht]; exact ⟨sv, _, _, _, ⟨_, _, _, hP, hrv⟩, hsv, hke, hln, hnb2, hnb⟩)⟩, hS.F ht⟩) hS.2.2 dX6_ifGot_50
      · exact absurd rfl c_6
    · rw [hB2] at c_4; exact absurd rfl c_4
  · rw [hB1] at c_2; exact absurd c_2 (by decide)
set_option maxHeartbeats 4000000 in
set_option maxRecDepth 100000 in
theorem c_X6_ifGot_no3 (l : Launch) (E : wE) (g : Nat → Nat) (th : Int32) (ln : Nat) (tx : Nat → Int32) (nb : Nat) (va : Nat → Int32) (se : Int32) (rc : Nat → MR) (ke : Nat) (hs : Nat → MS) (x y z : Int32) (hB1 : inB x 0 2 = true) (hB2 : inB y 0 9999 = true) (hB3 : inB z 0 1 = false) : Met l yX6_ifGot wsX6_ifGot ({ frames := 5, cells := 0, slots := 0, locals := 118 }) (va_Pc [.ref ((g 0)), .int x, .int y, .int z] (wS E 6 g (MOB E g th ln tx nb va se rc ke hs))) (va_Qi (fun (r : Int32) (_ : Unit) => r = 0) (fun _ t => MOB E g 2 ln tx nb va se rc ke hs (t.heap)) (wF 6 g)) 0 0 (wF 6 g) := by
  refine Met.ofW (cc := cX6_ifGot) (maxL := 4) (ret := (some .int)) (by decide) rfl ?_
  intro p e s m args below meth c s₁ B hml hv
  obtain ⟨rfl, ⟨sv, ai, wr, dg, ⟨aa, ro, rv, hP, hrv⟩, hsv, hke, hln, hnb2, hnb⟩, hK, hI⟩ := hv
  have hx := B.exec
  have hb := B.bytes
  have hr := B.returns
  have hts := atoms_spec (ws := wsX6_ifGot) B.pre
  have hown : s.vm.findClass RX6 = some m.cls := findClass_of_methodNamed B.named
  have hlocks := B.notSynchronized
  have hS : va_S (wF 6 g) s.heap s.heap [] := va_S.rf
  have hA : ∀ k, k < 6 → (wF 6 g) (g k) := wF_in
  have hl := lv_entry ([.ref ((g 0)), .int x, .int y, .int z]) (n := 4) (Nat.le_of_ble_eq_true rfl)
  rw [lg_entry_eq]
  generalize (lg_sl ([.ref ((g 0)), .int x, .int y, .int z]) ++ List.replicate (4 - (lg_sl ([.ref ((g 0)), .int x, .int y, .int z])).length) Slot.unset).toArray = ls at hl ⊢
  have hl : lv_has ls 4 [(0, .ref ((g 0))), (1, .int x), (2, .int y), (3, .int z)] := hl
  have hbN := hnb
  refine lv_aload_n hx hb dX6_ifGot_0 rfl (lv_at hl 0 rfl) ?_
  refine lv_iload_n hx hb dX6_ifGot_1 rfl (lv_at hl 1 rfl) ?_
  refine va_calli (va_runS (As := [.int x]) (rest := [.ref ((g 0))]) ⟨hx, hb, hml, hown, hts⟩ (c_X6_isReceiver l x) (va_cwS 1 hts gX6_ifGot_X6_isReceiver rfl rfl rfl (by decide +kernel) ⟨Nat.le_of_ble_eq_true rfl, Nat.le_of_ble_eq_true rfl⟩) ⟨wU_blind, fun U hU hW => ⟨rfl, trivial⟩⟩ rfl rfl hl.1 rfl (lv_room (Nat.le_of_ble_eq_true rfl)) dX6_ifGot_2 ⟨Nat.zero_le _, Nat.zero_le _⟩) hS (fun q _ h => h.elim) (fun q h => h.elim) (fun r_1 uu t H_1 locs_1 ht hvm hw hB hz1 hk1 hS => ?_)
  have hP := hP.same hk1
  obtain rfl : r_1 = (bI (inB x 0 2)) := hw
  refine lv_if_ne (tgt := 12) hx hb dX6_ifGot_5 (by decide) (fun c_2 => ?_) (fun c_2 => ?_)
  · refine lv_iload_n hx hb dX6_ifGot_12 rfl (lv_at hl 2 rfl) ?_
    refine va_calli (va_runS (As := [.int y]) (rest := [.ref ((g 0))]) ⟨hx, hb, hml, hown, hts⟩ (c_X6_isMix l y) (va_cwS 1 hts gX6_ifGot_X6_isMix rfl rfl rfl (by decide +kernel) ⟨Nat.le_of_ble_eq_true rfl, Nat.le_of_ble_eq_true rfl⟩) ⟨wU_blind, fun U hU hW => ⟨rfl, trivial⟩⟩ rfl rfl hl.1 rfl (lv_room (Nat.le_of_ble_eq_true rfl)) dX6_ifGot_13 ⟨Nat.zero_le _, Nat.zero_le _⟩) hS (fun q _ h => h.elim) (fun q h => h.elim) (fun r_3 uu t H_3 locs_3 ht hvm hw hB hz1 hk1 hS => ?_)
    have hP := hP.same hk1
    obtain rfl : r_3 = (bI (inB y 0 9999)) := hw
    refine lv_if_eq (tgt := 28) hx hb dX6_ifGot_16 (by decide) (fun c_4 => ?_) (fun c_4 => ?_)
    · rw [hB2] at c_4; exact absurd c_4 (by decide)
    · refine lv_iload_n hx hb dX6_ifGot_19 rfl (lv_at hl 3 rfl) ?_
      refine lv_iconst (v := 0) hx hb dX6_ifGot_20 (by decide) ?_
      refine lv_iconst (v := 1) hx hb dX6_ifGot_21 (by decide) ?_
      refine va_calli (va_runS (As := [.int z, .int 0, .int 1]) (rest := [.ref ((g 0))]) ⟨hx, hb, hml, hown, hts⟩ (c_X6_in l z 0 1) (va_cwS 3 hts gX6_ifGot_X6_in rfl rfl rfl (by decide +kernel) ⟨Nat.le_of_ble_eq_true rfl, Nat.le_of_ble_eq_true rfl⟩) ⟨wU_blind, fun U hU hW => ⟨rfl, trivial⟩⟩ rfl rfl hl.1 rfl (lv_room (Nat.le_of_ble_eq_true rfl)) dX6_ifGot_22 ⟨Nat.zero_le _, Nat.zero_le _⟩) hS (fun q _ h => h.elim) (fun q h => h.elim) (fun r_5 uu t H_5 locs_5 ht hvm hw hB hz1 hk1 hS => ?_)
      have hP := hP.same hk1
      obtain rfl : r_5 = (bI (inB z 0 1)) := hw
      refine lv_if_ne (tgt := 32) hx hb dX6_ifGot_25 (by decide) (fun c_6 => ?_) (fun c_6 => ?_)
      · rw [hB3] at c_6; exact absurd rfl c_6
      · refine lv_iconst (v := 2) hx hb dX6_ifGot_28 (by decide) ?_
        refine lv_goto (tgt := 33) hx hb dX6_ifGot_29 (by decide) ?_
        refine va_calli (va_runV (As := [.int 2]) (rest := []) ⟨hx, hb, hml, hown, hts⟩ (c_X6_holds l E g (mdE nb va se rv) th aa sv ke tx ln ro ai wr dg 2) (cwV 1 hts gX6_ifGot_X6_holds rfl rfl rfl (by decide +kernel) ⟨Nat.le_of_ble_eq_true rfl, Nat.le_of_ble_eq_true rfl⟩) ⟨wS.blind, (w_recv hK hP 0 (by decide) rfl (ci := 6) rfl), fun U hU hW => wS.go hP hK hI hU hW⟩ rfl rfl hl.1 rfl (lv_room (Nat.le_of_ble_eq_true rfl)) dX6_ifGot_33 ⟨Nat.zero_le _, Nat.zero_le _⟩) hS (fun q _ h => h) (fun q h => h) (fun r_7 uu t H_7 locs_7 ht hvm hw hB hz1 hk1 hS => ?_)
        rw [ht] at hB
        have hP : wP E 6 g (moF E g 2 (mdE nb va se rv) aa sv ke tx ln ro ai wr dg) H_7 := hB
        obtain rfl : r_7 = 0 := hw
        refine lv_if_eq (tgt := 49) hx hb dX6_ifGot_36 (by decide) (fun c_8 => ?_) (fun c_8 => ?_)
        · refine lv_iconst (v := 0) hx hb dX6_ifGot_49 (by decide) ?_
          exact W.iret (v := 0) hx hb hr (fun t ht hW => ⟨⟨_, (), rfl, rfl, (by show MOB E g 2 ln tx nb va se rc ke hs (t.heap); rw [ht]; exact ⟨sv, _, _, _, ⟨_, _, _, hP, hrv⟩, hsv, hke, hln, hnb2, hnb⟩)⟩, hS.F ht⟩) hS.2.2 dX6_ifGot_50
        · exact absurd rfl c_8
  · rw [hB1] at c_2; exact absurd c_2 (by decide)
set_option maxHeartbeats 4000000 in
set_option maxRecDepth 100000 in
theorem c_X6_helps_ok (l : Launch) (E : wE) (g : Nat → Nat) (th : Int32) (ln : Nat) (tx : Nat → Int32) (nb : Nat) (va : Nat → Int32) (se : Int32) (rc : Nat → MR) (ke : Nat) (hs : Nat → MS) (u : Nat) (hu3 : u < 3) (k0 : Nat) (hk0 : k0 < 10000) : Met l yX6_helps wsX6_helps ({ frames := 6, cells := 0, slots := 0, locals := 141 }) (va_Pc [.ref ((g 0)), .int (nI u), .int (nI k0)] (wS E 6 g (MOB E g th ln tx nb va se rc ke hs))) (va_Qi (fun (r : Int32) (_ : Unit) => r = nhS (hpM nb (rc u)) (nhN k0) k0) (fun _ t => MOB E g 0 ln tx nb va se rc ke hs (t.heap)) (wF 6 g)) 0 0 (wF 6 g) := by
  refine Met.ofW (cc := cX6_helps) (maxL := 3) (ret := (some .int)) (by decide) rfl ?_
  intro p e s m args below meth c s₁ B hml hv
  obtain ⟨rfl, ⟨sv, ai, wr, dg, ⟨aa, ro, rv, hP, hrv⟩, hsv, hke, hln, hnb2, hnb⟩, hK, hI⟩ := hv
  have hx := B.exec
  have hb := B.bytes
  have hr := B.returns
  have hts := atoms_spec (ws := wsX6_helps) B.pre
  have hown : s.vm.findClass RX6 = some m.cls := findClass_of_methodNamed B.named
  have hlocks := B.notSynchronized
  have hS : va_S (wF 6 g) s.heap s.heap [] := va_S.rf
  have hA : ∀ k, k < 6 → (wF 6 g) (g k) := wF_in
  have hl := lv_entry ([.ref ((g 0)), .int (nI u), .int (nI k0)]) (n := 3) (Nat.le_of_ble_eq_true rfl)
  rw [lg_entry_eq]
  generalize (lg_sl ([.ref ((g 0)), .int (nI u), .int (nI k0)]) ++ List.replicate (3 - (lg_sl ([.ref ((g 0)), .int (nI u), .int (nI k0)])).length) Slot.unset).toArray = ls at hl ⊢
  have hl : lv_has ls 3 [(0, .ref ((g 0))), (1, .int (nI u)), (2, .int (nI k0))] := hl
  have hbN := hnb
  have hB1 : inB (nI u) 0 2 = true := inB_t (n := u) (a := 0) (b := 2) rfl rfl rfl (by omega) (by omega) (by omega)
  have hB2 : inB (nI k0) 0 9999 = true := inB_t (n := k0) (a := 0) (b := 9999) rfl rfl rfl (by omega) (by omega) (by omega)
  refine lv_aload_n hx hb dX6_helps_0 rfl (lv_at hl 0 rfl) ?_
  refine lv_iload_n hx hb dX6_helps_1 rfl (lv_at hl 1 rfl) ?_
  refine va_calli (va_runS (As := [.int (nI u)]) (rest := [.ref ((g 0))]) ⟨hx, hb, hml, hown, hts⟩ (c_X6_isReceiver l (nI u)) (va_cwS 1 hts gX6_helps_X6_isReceiver rfl rfl rfl (by decide +kernel) ⟨Nat.le_of_ble_eq_true rfl, Nat.le_of_ble_eq_true rfl⟩) ⟨wU_blind, fun U hU hW => ⟨rfl, trivial⟩⟩ rfl rfl hl.1 rfl (lv_room (Nat.le_of_ble_eq_true rfl)) dX6_helps_2 ⟨Nat.zero_le _, Nat.zero_le _⟩) hS (fun q _ h => h.elim) (fun q h => h.elim) (fun r_1 uu t H_1 locs_1 ht hvm hw hB hz1 hk1 hS => ?_)
  have hP := hP.same hk1
  obtain rfl : r_1 = (bI (inB (nI u) 0 2)) := hw
  refine lv_if_ne (tgt := 12) hx hb dX6_helps_5 (by decide) (fun c_2 => ?_) (fun c_2 => ?_)
  · refine lv_iload_n hx hb dX6_helps_12 rfl (lv_at hl 2 rfl) ?_
    refine va_calli (va_runS (As := [.int (nI k0)]) (rest := [.ref ((g 0))]) ⟨hx, hb, hml, hown, hts⟩ (c_X6_isMix l (nI k0)) (va_cwS 1 hts gX6_helps_X6_isMix rfl rfl rfl (by decide +kernel) ⟨Nat.le_of_ble_eq_true rfl, Nat.le_of_ble_eq_true rfl⟩) ⟨wU_blind, fun U hU hW => ⟨rfl, trivial⟩⟩ rfl rfl hl.1 rfl (lv_room (Nat.le_of_ble_eq_true rfl)) dX6_helps_13 ⟨Nat.zero_le _, Nat.zero_le _⟩) hS (fun q _ h => h.elim) (fun q h => h.elim) (fun r_3 uu t H_3 locs_3 ht hvm hw hB hz1 hk1 hS => ?_)
    have hP := hP.same hk1
    obtain rfl : r_3 = (bI (inB (nI k0) 0 9999)) := hw
    refine lv_if_ne (tgt := 23) hx hb dX6_helps_16 (by decide) (fun c_4 => ?_) (fun c_4 => ?_)
    · refine lv_iconst (v := 0) hx hb dX6_helps_23 (by decide) ?_
      refine va_calli (va_runV (As := [.int 0]) (rest := []) ⟨hx, hb, hml, hown, hts⟩ (c_X6_holds l E g (mdE nb va se rv) th aa sv ke tx ln ro ai wr dg 0) (cwV 1 hts gX6_helps_X6_holds rfl rfl rfl (by decide +kernel) ⟨Nat.le_of_ble_eq_true rfl, Nat.le_of_ble_eq_true rfl⟩) ⟨wS.blind, (w_recv hK hP 0 (by decide) rfl (ci := 6) rfl), fun U hU hW => wS.go hP hK hI hU hW⟩ rfl rfl hl.1 rfl (lv_room (Nat.le_of_ble_eq_true rfl)) dX6_helps_24 ⟨Nat.zero_le _, Nat.zero_le _⟩) hS (fun q _ h => h) (fun q h => h) (fun r_5 uu t H_5 locs_5 ht hvm hw hB hz1 hk1 hS => ?_)
      rw [ht] at hB
      have hP : wP E 6 g (moF E g 0 (mdE nb va se rv) aa sv ke tx ln ro ai wr dg) H_5 := hB
      obtain rfl : r_5 = 1 := hw
      refine lv_if_eq (tgt := 39) hx hb dX6_helps_27 (by decide) (fun c_6 => ?_) (fun c_6 => ?_)
      · exact absurd c_6 (by decide)
      · refine lv_aload_n hx hb dX6_helps_30 rfl (lv_at hl 0 rfl) ?_
        refine lv_iload_n hx hb dX6_helps_31 rfl (lv_at hl 1 rfl) ?_
        refine lv_iload_n hx hb dX6_helps_32 rfl (lv_at hl 2 rfl) ?_
        refine va_calli (va_runV (As := [.int (nI u), .int (nI k0)]) (rest := []) ⟨hx, hb, hml, hown, hts⟩ (c_X6_helping l E g 0 sv ke tx ln ai wr dg nb va se rc u (by omega) k0 (by omega) hnb2 hnb) (cwV 2 hts gX6_helps_X6_helping rfl rfl rfl (by decide +kernel) ⟨Nat.le_of_ble_eq_true rfl, Nat.le_of_ble_eq_true rfl⟩) ⟨wS.blind, (w_recv hK hP 0 (by decide) rfl (ci := 6) rfl), fun U hU hW => wS.go ⟨_, _, _, hP, hrv⟩ hK hI hU hW⟩ rfl rfl hl.1 rfl (lv_room (Nat.le_of_ble_eq_true rfl)) dX6_helps_33 ⟨Nat.zero_le _, Nat.zero_le _⟩) hS (fun q _ h => h) (fun q h => h) (fun r_7 uu t H_7 locs_7 ht hvm hw hB hz1 hk1 hS => ?_)
        rw [ht] at hB
        obtain ⟨aa_7, ro_7, rv_7, hP, hrv_7⟩ := hB
        have hP : wP E 6 g (moF E g 0 (mdE nb va se rv_7) aa_7 sv ke tx ln ro_7 ai wr dg) H_7 := hP
        obtain rfl : r_7 = (nhS (hpM nb (rc u)) (nhN k0) k0) := hw
        refine lv_goto (tgt := 40) hx hb dX6_helps_36 (by decide) ?_
        exact W.iret (v := (nhS (hpM nb (rc u)) (nhN k0) k0)) hx hb hr (fun t ht hW => ⟨⟨_, (), rfl, rfl, (by show MOB E g 0 ln tx nb va se rc ke hs (t.heap); rw [ht]; exact ⟨sv, _, _, _, ⟨_, _, _, hP, hrv_7⟩, hsv, hke, hln, hnb2, hnb⟩)⟩, hS.F ht⟩) hS.2.2 dX6_helps_40
    · rw [hB2] at c_4; exact absurd c_4 (by decide)
  · rw [hB1] at c_2; exact absurd c_2 (by decide)
set_option maxHeartbeats 4000000 in
set_option maxRecDepth 100000 in
theorem c_X6_helps_no1 (l : Launch) (E : wE) (g : Nat → Nat) (th : Int32) (ln : Nat) (tx : Nat → Int32) (nb : Nat) (va : Nat → Int32) (se : Int32) (rc : Nat → MR) (ke : Nat) (hs : Nat → MS) (x y : Int32) (hB1 : inB x 0 2 = false) : Met l yX6_helps wsX6_helps ({ frames := 6, cells := 0, slots := 0, locals := 141 }) (va_Pc [.ref ((g 0)), .int x, .int y] (wS E 6 g (MOB E g th ln tx nb va se rc ke hs))) (va_Qi (fun (r : Int32) (_ : Unit) => r = 0) (fun _ t => MOB E g 1 ln tx nb va se rc ke hs (t.heap)) (wF 6 g)) 0 0 (wF 6 g) := by
  refine Met.ofW (cc := cX6_helps) (maxL := 3) (ret := (some .int)) (by decide) rfl ?_
  intro p e s m args below meth c s₁ B hml hv
  obtain ⟨rfl, ⟨sv, ai, wr, dg, ⟨aa, ro, rv, hP, hrv⟩, hsv, hke, hln, hnb2, hnb⟩, hK, hI⟩ := hv
  have hx := B.exec
  have hb := B.bytes
  have hr := B.returns
  have hts := atoms_spec (ws := wsX6_helps) B.pre
  have hown : s.vm.findClass RX6 = some m.cls := findClass_of_methodNamed B.named
  have hlocks := B.notSynchronized
  have hS : va_S (wF 6 g) s.heap s.heap [] := va_S.rf
  have hA : ∀ k, k < 6 → (wF 6 g) (g k) := wF_in
  have hl := lv_entry ([.ref ((g 0)), .int x, .int y]) (n := 3) (Nat.le_of_ble_eq_true rfl)
  rw [lg_entry_eq]
  generalize (lg_sl ([.ref ((g 0)), .int x, .int y]) ++ List.replicate (3 - (lg_sl ([.ref ((g 0)), .int x, .int y])).length) Slot.unset).toArray = ls at hl ⊢
  have hl : lv_has ls 3 [(0, .ref ((g 0))), (1, .int x), (2, .int y)] := hl
  have hbN := hnb
  refine lv_aload_n hx hb dX6_helps_0 rfl (lv_at hl 0 rfl) ?_
  refine lv_iload_n hx hb dX6_helps_1 rfl (lv_at hl 1 rfl) ?_
  refine va_calli (va_runS (As := [.int x]) (rest := [.ref ((g 0))]) ⟨hx, hb, hml, hown, hts⟩ (c_X6_isReceiver l x) (va_cwS 1 hts gX6_helps_X6_isReceiver rfl rfl rfl (by decide +kernel) ⟨Nat.le_of_ble_eq_true rfl, Nat.le_of_ble_eq_true rfl⟩) ⟨wU_blind, fun U hU hW => ⟨rfl, trivial⟩⟩ rfl rfl hl.1 rfl (lv_room (Nat.le_of_ble_eq_true rfl)) dX6_helps_2 ⟨Nat.zero_le _, Nat.zero_le _⟩) hS (fun q _ h => h.elim) (fun q h => h.elim) (fun r_1 uu t H_1 locs_1 ht hvm hw hB hz1 hk1 hS => ?_)
  have hP := hP.same hk1
  obtain rfl : r_1 = (bI (inB x 0 2)) := hw
  refine lv_if_ne (tgt := 12) hx hb dX6_helps_5 (by decide) (fun c_2 => ?_) (fun c_2 => ?_)
  · rw [hB1] at c_2; exact absurd rfl c_2
  · refine lv_iconst (v := 1) hx hb dX6_helps_8 (by decide) ?_
    refine lv_goto (tgt := 24) hx hb dX6_helps_9 (by decide) ?_
    refine va_calli (va_runV (As := [.int 1]) (rest := []) ⟨hx, hb, hml, hown, hts⟩ (c_X6_holds l E g (mdE nb va se rv) th aa sv ke tx ln ro ai wr dg 1) (cwV 1 hts gX6_helps_X6_holds rfl rfl rfl (by decide +kernel) ⟨Nat.le_of_ble_eq_true rfl, Nat.le_of_ble_eq_true rfl⟩) ⟨wS.blind, (w_recv hK hP 0 (by decide) rfl (ci := 6) rfl), fun U hU hW => wS.go hP hK hI hU hW⟩ rfl rfl hl.1 rfl (lv_room (Nat.le_of_ble_eq_true rfl)) dX6_helps_24 ⟨Nat.zero_le _, Nat.zero_le _⟩) hS (fun q _ h => h) (fun q h => h) (fun r_3 uu t H_3 locs_3 ht hvm hw hB hz1 hk1 hS => ?_)
    rw [ht] at hB
    have hP : wP E 6 g (moF E g 1 (mdE nb va se rv) aa sv ke tx ln ro ai wr dg) H_3 := hB
    obtain rfl : r_3 = 0 := hw
    refine lv_if_eq (tgt := 39) hx hb dX6_helps_27 (by decide) (fun c_4 => ?_) (fun c_4 => ?_)
    · refine lv_iconst (v := 0) hx hb dX6_helps_39 (by decide) ?_
      exact W.iret (v := 0) hx hb hr (fun t ht hW => ⟨⟨_, (), rfl, rfl, (by show MOB E g 1 ln tx nb va se rc ke hs (t.heap); rw [ht]; exact ⟨sv, _, _, _, ⟨_, _, _, hP, hrv⟩, hsv, hke, hln, hnb2, hnb⟩)⟩, hS.F ht⟩) hS.2.2 dX6_helps_40
    · exact absurd rfl c_4
set_option maxHeartbeats 4000000 in
set_option maxRecDepth 100000 in
theorem c_X6_helps_no2 (l : Launch) (E : wE) (g : Nat → Nat) (th : Int32) (ln : Nat) (tx : Nat → Int32) (nb : Nat) (va : Nat → Int32) (se : Int32) (rc : Nat → MR) (ke : Nat) (hs : Nat → MS) (x y : Int32) (hB1 : inB x 0 2 = true) (hB2 : inB y 0 9999 = false) : Met l yX6_helps wsX6_helps ({ frames := 6, cells := 0, slots := 0, locals := 141 }) (va_Pc [.ref ((g 0)), .int x, .int y] (wS E 6 g (MOB E g th ln tx nb va se rc ke hs))) (va_Qi (fun (r : Int32) (_ : Unit) => r = 0) (fun _ t => MOB E g 2 ln tx nb va se rc ke hs (t.heap)) (wF 6 g)) 0 0 (wF 6 g) := by
  refine Met.ofW (cc := cX6_helps) (maxL := 3) (ret := (some .int)) (by decide) rfl ?_
  intro p e s m args below meth c s₁ B hml hv
  obtain ⟨rfl, ⟨sv, ai, wr, dg, ⟨aa, ro, rv, hP, hrv⟩, hsv, hke, hln, hnb2, hnb⟩, hK, hI⟩ := hv
  have hx := B.exec
  have hb := B.bytes
  have hr := B.returns
  have hts := atoms_spec (ws := wsX6_helps) B.pre
  have hown : s.vm.findClass RX6 = some m.cls := findClass_of_methodNamed B.named
  have hlocks := B.notSynchronized
  have hS : va_S (wF 6 g) s.heap s.heap [] := va_S.rf
  have hA : ∀ k, k < 6 → (wF 6 g) (g k) := wF_in
  have hl := lv_entry ([.ref ((g 0)), .int x, .int y]) (n := 3) (Nat.le_of_ble_eq_true rfl)
  rw [lg_entry_eq]
  generalize (lg_sl ([.ref ((g 0)), .int x, .int y]) ++ List.replicate (3 - (lg_sl ([.ref ((g 0)), .int x, .int y])).length) Slot.unset).toArray = ls at hl ⊢
  have hl : lv_has ls 3 [(0, .ref ((g 0))), (1, .int x), (2, .int y)] := hl
  have hbN := hnb
  refine lv_aload_n hx hb dX6_helps_0 rfl (lv_at hl 0 rfl) ?_
  refine lv_iload_n hx hb dX6_helps_1 rfl (lv_at hl 1 rfl) ?_
  refine va_calli (va_runS (As := [.int x]) (rest := [.ref ((g 0))]) ⟨hx, hb, hml, hown, hts⟩ (c_X6_isReceiver l x) (va_cwS 1 hts gX6_helps_X6_isReceiver rfl rfl rfl (by decide +kernel) ⟨Nat.le_of_ble_eq_true rfl, Nat.le_of_ble_eq_true rfl⟩) ⟨wU_blind, fun U hU hW => ⟨rfl, trivial⟩⟩ rfl rfl hl.1 rfl (lv_room (Nat.le_of_ble_eq_true rfl)) dX6_helps_2 ⟨Nat.zero_le _, Nat.zero_le _⟩) hS (fun q _ h => h.elim) (fun q h => h.elim) (fun r_1 uu t H_1 locs_1 ht hvm hw hB hz1 hk1 hS => ?_)
  have hP := hP.same hk1
  obtain rfl : r_1 = (bI (inB x 0 2)) := hw
  refine lv_if_ne (tgt := 12) hx hb dX6_helps_5 (by decide) (fun c_2 => ?_) (fun c_2 => ?_)
  · refine lv_iload_n hx hb dX6_helps_12 rfl (lv_at hl 2 rfl) ?_
    refine va_calli (va_runS (As := [.int y]) (rest := [.ref ((g 0))]) ⟨hx, hb, hml, hown, hts⟩ (c_X6_isMix l y) (va_cwS 1 hts gX6_helps_X6_isMix rfl rfl rfl (by decide +kernel) ⟨Nat.le_of_ble_eq_true rfl, Nat.le_of_ble_eq_true rfl⟩) ⟨wU_blind, fun U hU hW => ⟨rfl, trivial⟩⟩ rfl rfl hl.1 rfl (lv_room (Nat.le_of_ble_eq_true rfl)) dX6_helps_13 ⟨Nat.zero_le _, Nat.zero_le _⟩) hS (fun q _ h => h.elim) (fun q h => h.elim) (fun r_3 uu t H_3 locs_3 ht hvm hw hB hz1 hk1 hS => ?_)
    have hP := hP.same hk1
    obtain rfl : r_3 = (bI (inB y 0 9999)) := hw
    refine lv_if_ne (tgt := 23) hx hb dX6_helps_16 (by decide) (fun c_4 => ?_) (fun c_4 => ?_)
    · rw [hB2] at c_4; exact absurd rfl c_4
    · refine lv_iconst (v := 2) hx hb dX6_helps_19 (by decide) ?_
      refine lv_goto (tgt := 24) hx hb dX6_helps_20 (by decide) ?_
      refine va_calli (va_runV (As := [.int 2]) (rest := []) ⟨hx, hb, hml, hown, hts⟩ (c_X6_holds l E g (mdE nb va se rv) th aa sv ke tx ln ro ai wr dg 2) (cwV 1 hts gX6_helps_X6_holds rfl rfl rfl (by decide +kernel) ⟨Nat.le_of_ble_eq_true rfl, Nat.le_of_ble_eq_true rfl⟩) ⟨wS.blind, (w_recv hK hP 0 (by decide) rfl (ci := 6) rfl), fun U hU hW => wS.go hP hK hI hU hW⟩ rfl rfl hl.1 rfl (lv_room (Nat.le_of_ble_eq_true rfl)) dX6_helps_24 ⟨Nat.zero_le _, Nat.zero_le _⟩) hS (fun q _ h => h) (fun q h => h) (fun r_5 uu t H_5 locs_5 ht hvm hw hB hz1 hk1 hS => ?_)
      rw [ht] at hB
      have hP : wP E 6 g (moF E g 2 (mdE nb va se rv) aa sv ke tx ln ro ai wr dg) H_5 := hB
      obtain rfl : r_5 = 0 := hw
      refine lv_if_eq (tgt := 39) hx hb dX6_helps_27 (by decide) (fun c_6 => ?_) (fun c_6 => ?_)
      · refine lv_iconst (v := 0) hx hb dX6_helps_39 (by decide) ?_
        exact W.iret (v := 0) hx hb hr (fun t ht hW => ⟨⟨_, (), rfl, rfl, (by show MOB E g 2 ln tx nb va se rc ke hs (t.heap); rw [ht]; exact ⟨sv, _, _, _, ⟨_, _, _, hP, hrv⟩, hsv, hke, hln, hnb2, hnb⟩)⟩, hS.F ht⟩) hS.2.2 dX6_helps_40
      · exact absurd rfl c_6
  · rw [hB1] at c_2; exact absurd c_2 (by decide)
set_option maxHeartbeats 4000000 in
set_option maxRecDepth 100000 in
theorem c_X6_needs_ok (l : Launch) (E : wE) (g : Nat → Nat) (th : Int32) (ln : Nat) (tx : Nat → Int32) (nb : Nat) (va : Nat → Int32) (se : Int32) (rc : Nat → MR) (ke : Nat) (hs : Nat → MS) (u : Nat) (hu3 : u < 3) (fr : Nat) (hfr : fr < 9900) (el : Bool) : Met l yX6_needs wsX6_needs ({ frames := 5, cells := 0, slots := 0, locals := 119 }) (va_Pc [.ref ((g 0)), .int (nI u), .int (nI fr), .int ((bI el))] (wS E 6 g (MOB E g th ln tx nb va se rc ke hs))) (va_Qi (fun (r : Int32) (_ : Unit) => r = ndM nb fr el 100 0 (rc u).2) (fun _ t => MOB E g 0 ln tx nb va se rc ke hs (t.heap)) (wF 6 g)) 0 0 (wF 6 g) := by
  refine Met.ofW (cc := cX6_needs) (maxL := 4) (ret := (some .int)) (by decide) rfl ?_
  intro p e s m args below meth c s₁ B hml hv
  obtain ⟨rfl, ⟨sv, ai, wr, dg, ⟨aa, ro, rv, hP, hrv⟩, hsv, hke, hln, hnb2, hnb⟩, hK, hI⟩ := hv
  have hx := B.exec
  have hb := B.bytes
  have hr := B.returns
  have hts := atoms_spec (ws := wsX6_needs) B.pre
  have hown : s.vm.findClass RX6 = some m.cls := findClass_of_methodNamed B.named
  have hlocks := B.notSynchronized
  have hS : va_S (wF 6 g) s.heap s.heap [] := va_S.rf
  have hA : ∀ k, k < 6 → (wF 6 g) (g k) := wF_in
  have hl := lv_entry ([.ref ((g 0)), .int (nI u), .int (nI fr), .int ((bI el))]) (n := 4) (Nat.le_of_ble_eq_true rfl)
  rw [lg_entry_eq]
  generalize (lg_sl ([.ref ((g 0)), .int (nI u), .int (nI fr), .int ((bI el))]) ++ List.replicate (4 - (lg_sl ([.ref ((g 0)), .int (nI u), .int (nI fr), .int ((bI el))])).length) Slot.unset).toArray = ls at hl ⊢
  have hl : lv_has ls 4 [(0, .ref ((g 0))), (1, .int (nI u)), (2, .int (nI fr)), (3, .int ((bI el)))] := hl
  have hbN := hnb
  have hB1 : inB (nI u) 0 2 = true := inB_t (n := u) (a := 0) (b := 2) rfl rfl rfl (by omega) (by omega) (by omega)
  have hB2 : inB (nI fr) 0 9899 = true := inB_t (n := fr) (a := 0) (b := 9899) rfl rfl rfl (by omega) (by omega) (by omega)
  refine lv_aload_n hx hb dX6_needs_0 rfl (lv_at hl 0 rfl) ?_
  refine lv_iload_n hx hb dX6_needs_1 rfl (lv_at hl 1 rfl) ?_
  refine va_calli (va_runS (As := [.int (nI u)]) (rest := [.ref ((g 0))]) ⟨hx, hb, hml, hown, hts⟩ (c_X6_isReceiver l (nI u)) (va_cwS 1 hts gX6_needs_X6_isReceiver rfl rfl rfl (by decide +kernel) ⟨Nat.le_of_ble_eq_true rfl, Nat.le_of_ble_eq_true rfl⟩) ⟨wU_blind, fun U hU hW => ⟨rfl, trivial⟩⟩ rfl rfl hl.1 rfl (lv_room (Nat.le_of_ble_eq_true rfl)) dX6_needs_2 ⟨Nat.zero_le _, Nat.zero_le _⟩) hS (fun q _ h => h.elim) (fun q h => h.elim) (fun r_1 uu t H_1 locs_1 ht hvm hw hB hz1 hk1 hS => ?_)
  have hP := hP.same hk1
  obtain rfl : r_1 = (bI (inB (nI u) 0 2)) := hw
  refine lv_if_ne (tgt := 12) hx hb dX6_needs_5 (by decide) (fun c_2 => ?_) (fun c_2 => ?_)
  · refine lv_iload_n hx hb dX6_needs_12 rfl (lv_at hl 2 rfl) ?_
    refine lv_iconst (v := 0) hx hb dX6_needs_13 (by decide) ?_
    refine lv_sipush (v := 9899) hx hb dX6_needs_14 (by decide) ?_
    refine va_calli (va_runS (As := [.int (nI fr), .int 0, .int 9899]) (rest := [.ref ((g 0))]) ⟨hx, hb, hml, hown, hts⟩ (c_X6_in l (nI fr) 0 9899) (va_cwS 3 hts gX6_needs_X6_in rfl rfl rfl (by decide +kernel) ⟨Nat.le_of_ble_eq_true rfl, Nat.le_of_ble_eq_true rfl⟩) ⟨wU_blind, fun U hU hW => ⟨rfl, trivial⟩⟩ rfl rfl hl.1 rfl (lv_room (Nat.le_of_ble_eq_true rfl)) dX6_needs_17 ⟨Nat.zero_le _, Nat.zero_le _⟩) hS (fun q _ h => h.elim) (fun q h => h.elim) (fun r_3 uu t H_3 locs_3 ht hvm hw hB hz1 hk1 hS => ?_)
    have hP := hP.same hk1
    obtain rfl : r_3 = (bI (inB (nI fr) 0 9899)) := hw
    refine lv_if_ne (tgt := 27) hx hb dX6_needs_20 (by decide) (fun c_4 => ?_) (fun c_4 => ?_)
    · refine lv_iconst (v := 0) hx hb dX6_needs_27 (by decide) ?_
      refine va_calli (va_runV (As := [.int 0]) (rest := []) ⟨hx, hb, hml, hown, hts⟩ (c_X6_holds l E g (mdE nb va se rv) th aa sv ke tx ln ro ai wr dg 0) (cwV 1 hts gX6_needs_X6_holds rfl rfl rfl (by decide +kernel) ⟨Nat.le_of_ble_eq_true rfl, Nat.le_of_ble_eq_true rfl⟩) ⟨wS.blind, (w_recv hK hP 0 (by decide) rfl (ci := 6) rfl), fun U hU hW => wS.go hP hK hI hU hW⟩ rfl rfl hl.1 rfl (lv_room (Nat.le_of_ble_eq_true rfl)) dX6_needs_28 ⟨Nat.zero_le _, Nat.zero_le _⟩) hS (fun q _ h => h) (fun q h => h) (fun r_5 uu t H_5 locs_5 ht hvm hw hB hz1 hk1 hS => ?_)
      rw [ht] at hB
      have hP : wP E 6 g (moF E g 0 (mdE nb va se rv) aa sv ke tx ln ro ai wr dg) H_5 := hB
      obtain rfl : r_5 = 1 := hw
      refine lv_if_eq (tgt := 44) hx hb dX6_needs_31 (by decide) (fun c_6 => ?_) (fun c_6 => ?_)
      · exact absurd c_6 (by decide)
      · refine lv_aload_n hx hb dX6_needs_34 rfl (lv_at hl 0 rfl) ?_
        refine lv_iload_n hx hb dX6_needs_35 rfl (lv_at hl 1 rfl) ?_
        refine lv_iload_n hx hb dX6_needs_36 rfl (lv_at hl 2 rfl) ?_
        refine lv_iload_n hx hb dX6_needs_37 rfl (lv_at hl 3 rfl) ?_
        refine va_calli (va_runV (As := [.int (nI u), .int (nI fr), .int ((bI el))]) (rest := []) ⟨hx, hb, hml, hown, hts⟩ (c_X6_needed l E g 0 sv ke tx ln ai wr dg nb va se rc u (by omega) fr (by omega) el hnb2 hnb) (cwV 3 hts gX6_needs_X6_needed rfl rfl rfl (by decide +kernel) ⟨Nat.le_of_ble_eq_true rfl, Nat.le_of_ble_eq_true rfl⟩) ⟨wS.blind, (w_recv hK hP 0 (by decide) rfl (ci := 6) rfl), fun U hU hW => wS.go ⟨_, _, _, hP, hrv⟩ hK hI hU hW⟩ rfl rfl hl.1 rfl (lv_room (Nat.le_of_ble_eq_true rfl)) dX6_needs_38 ⟨Nat.zero_le _, Nat.zero_le _⟩) hS (fun q _ h => h) (fun q h => h) (fun r_7 uu t H_7 locs_7 ht hvm hw hB hz1 hk1 hS => ?_)
        rw [ht] at hB
        obtain ⟨aa_7, ro_7, rv_7, hP, hrv_7⟩ := hB
        have hP : wP E 6 g (moF E g 0 (mdE nb va se rv_7) aa_7 sv ke tx ln ro_7 ai wr dg) H_7 := hP
        obtain rfl : r_7 = (ndM nb fr el 100 0 (rc u).2) := hw
        refine lv_goto (tgt := 45) hx hb dX6_needs_41 (by decide) ?_
        exact W.iret (v := (ndM nb fr el 100 0 (rc u).2)) hx hb hr (fun t ht hW => ⟨⟨_, (), rfl, rfl, (by show MOB E g 0 ln tx nb va se rc ke hs (t.heap); rw [ht]; exact ⟨sv, _, _, _, ⟨_, _, _, hP, hrv_7⟩, hsv, hke, hln, hnb2, hnb⟩)⟩, hS.F ht⟩) hS.2.2 dX6_needs_45
    · rw [hB2] at c_4; exact absurd c_4 (by decide)
  · rw [hB1] at c_2; exact absurd c_2 (by decide)
set_option maxHeartbeats 4000000 in
set_option maxRecDepth 100000 in
theorem c_X6_needs_no1 (l : Launch) (E : wE) (g : Nat → Nat) (th : Int32) (ln : Nat) (tx : Nat → Int32) (nb : Nat) (va : Nat → Int32) (se : Int32) (rc : Nat → MR) (ke : Nat) (hs : Nat → MS) (x y : Int32) (el : Bool) (hB1 : inB x 0 2 = false) : Met l yX6_needs wsX6_needs ({ frames := 5, cells := 0, slots := 0, locals := 119 }) (va_Pc [.ref ((g 0)), .int x, .int y, .int ((bI el))] (wS E 6 g (MOB E g th ln tx nb va se rc ke hs))) (va_Qi (fun (r : Int32) (_ : Unit) => r = 0) (fun _ t => MOB E g 1 ln tx nb va se rc ke hs (t.heap)) (wF 6 g)) 0 0 (wF 6 g) := by
  refine Met.ofW (cc := cX6_needs) (maxL := 4) (ret := (some .int)) (by decide) rfl ?_
  intro p e s m args below meth c s₁ B hml hv
  obtain ⟨rfl, ⟨sv, ai, wr, dg, ⟨aa, ro, rv, hP, hrv⟩, hsv, hke, hln, hnb2, hnb⟩, hK, hI⟩ := hv
  have hx := B.exec
  have hb := B.bytes
  have hr := B.returns
  have hts := atoms_spec (ws := wsX6_needs) B.pre
  have hown : s.vm.findClass RX6 = some m.cls := findClass_of_methodNamed B.named
  have hlocks := B.notSynchronized
  have hS : va_S (wF 6 g) s.heap s.heap [] := va_S.rf
  have hA : ∀ k, k < 6 → (wF 6 g) (g k) := wF_in
  have hl := lv_entry ([.ref ((g 0)), .int x, .int y, .int ((bI el))]) (n := 4) (Nat.le_of_ble_eq_true rfl)
  rw [lg_entry_eq]
  generalize (lg_sl ([.ref ((g 0)), .int x, .int y, .int ((bI el))]) ++ List.replicate (4 - (lg_sl ([.ref ((g 0)), .int x, .int y, .int ((bI el))])).length) Slot.unset).toArray = ls at hl ⊢
  have hl : lv_has ls 4 [(0, .ref ((g 0))), (1, .int x), (2, .int y), (3, .int ((bI el)))] := hl
  have hbN := hnb
  refine lv_aload_n hx hb dX6_needs_0 rfl (lv_at hl 0 rfl) ?_
  refine lv_iload_n hx hb dX6_needs_1 rfl (lv_at hl 1 rfl) ?_
  refine va_calli (va_runS (As := [.int x]) (rest := [.ref ((g 0))]) ⟨hx, hb, hml, hown, hts⟩ (c_X6_isReceiver l x) (va_cwS 1 hts gX6_needs_X6_isReceiver rfl rfl rfl (by decide +kernel) ⟨Nat.le_of_ble_eq_true rfl, Nat.le_of_ble_eq_true rfl⟩) ⟨wU_blind, fun U hU hW => ⟨rfl, trivial⟩⟩ rfl rfl hl.1 rfl (lv_room (Nat.le_of_ble_eq_true rfl)) dX6_needs_2 ⟨Nat.zero_le _, Nat.zero_le _⟩) hS (fun q _ h => h.elim) (fun q h => h.elim) (fun r_1 uu t H_1 locs_1 ht hvm hw hB hz1 hk1 hS => ?_)
  have hP := hP.same hk1
  obtain rfl : r_1 = (bI (inB x 0 2)) := hw
  refine lv_if_ne (tgt := 12) hx hb dX6_needs_5 (by decide) (fun c_2 => ?_) (fun c_2 => ?_)
  · rw [hB1] at c_2; exact absurd rfl c_2
  · refine lv_iconst (v := 1) hx hb dX6_needs_8 (by decide) ?_
    refine lv_goto (tgt := 28) hx hb dX6_needs_9 (by decide) ?_
    refine va_calli (va_runV (As := [.int 1]) (rest := []) ⟨hx, hb, hml, hown, hts⟩ (c_X6_holds l E g (mdE nb va se rv) th aa sv ke tx ln ro ai wr dg 1) (cwV 1 hts gX6_needs_X6_holds rfl rfl rfl (by decide +kernel) ⟨Nat.le_of_ble_eq_true rfl, Nat.le_of_ble_eq_true rfl⟩) ⟨wS.blind, (w_recv hK hP 0 (by decide) rfl (ci := 6) rfl), fun U hU hW => wS.go hP hK hI hU hW⟩ rfl rfl hl.1 rfl (lv_room (Nat.le_of_ble_eq_true rfl)) dX6_needs_28 ⟨Nat.zero_le _, Nat.zero_le _⟩) hS (fun q _ h => h) (fun q h => h) (fun r_3 uu t H_3 locs_3 ht hvm hw hB hz1 hk1 hS => ?_)
    rw [ht] at hB
    have hP : wP E 6 g (moF E g 1 (mdE nb va se rv) aa sv ke tx ln ro ai wr dg) H_3 := hB
    obtain rfl : r_3 = 0 := hw
    refine lv_if_eq (tgt := 44) hx hb dX6_needs_31 (by decide) (fun c_4 => ?_) (fun c_4 => ?_)
    · refine lv_iconst (v := 0) hx hb dX6_needs_44 (by decide) ?_
      exact W.iret (v := 0) hx hb hr (fun t ht hW => ⟨⟨_, (), rfl, rfl, (by show MOB E g 1 ln tx nb va se rc ke hs (t.heap); rw [ht]; exact ⟨sv, _, _, _, ⟨_, _, _, hP, hrv⟩, hsv, hke, hln, hnb2, hnb⟩)⟩, hS.F ht⟩) hS.2.2 dX6_needs_45
    · exact absurd rfl c_4
set_option maxHeartbeats 4000000 in
set_option maxRecDepth 100000 in
theorem c_X6_needs_no2 (l : Launch) (E : wE) (g : Nat → Nat) (th : Int32) (ln : Nat) (tx : Nat → Int32) (nb : Nat) (va : Nat → Int32) (se : Int32) (rc : Nat → MR) (ke : Nat) (hs : Nat → MS) (x y : Int32) (el : Bool) (hB1 : inB x 0 2 = true) (hB2 : inB y 0 9899 = false) : Met l yX6_needs wsX6_needs ({ frames := 5, cells := 0, slots := 0, locals := 119 }) (va_Pc [.ref ((g 0)), .int x, .int y, .int ((bI el))] (wS E 6 g (MOB E g th ln tx nb va se rc ke hs))) (va_Qi (fun (r : Int32) (_ : Unit) => r = 0) (fun _ t => MOB E g 2 ln tx nb va se rc ke hs (t.heap)) (wF 6 g)) 0 0 (wF 6 g) := by
  refine Met.ofW (cc := cX6_needs) (maxL := 4) (ret := (some .int)) (by decide) rfl ?_
  intro p e s m args below meth c s₁ B hml hv
  obtain ⟨rfl, ⟨sv, ai, wr, dg, ⟨aa, ro, rv, hP, hrv⟩, hsv, hke, hln, hnb2, hnb⟩, hK, hI⟩ := hv
  have hx := B.exec
  have hb := B.bytes
  have hr := B.returns
  have hts := atoms_spec (ws := wsX6_needs) B.pre
  have hown : s.vm.findClass RX6 = some m.cls := findClass_of_methodNamed B.named
  have hlocks := B.notSynchronized
  have hS : va_S (wF 6 g) s.heap s.heap [] := va_S.rf
  have hA : ∀ k, k < 6 → (wF 6 g) (g k) := wF_in
  have hl := lv_entry ([.ref ((g 0)), .int x, .int y, .int ((bI el))]) (n := 4) (Nat.le_of_ble_eq_true rfl)
  rw [lg_entry_eq]
  generalize (lg_sl ([.ref ((g 0)), .int x, .int y, .int ((bI el))]) ++ List.replicate (4 - (lg_sl ([.ref ((g 0)), .int x, .int y, .int ((bI el))])).length) Slot.unset).toArray = ls at hl ⊢
  have hl : lv_has ls 4 [(0, .ref ((g 0))), (1, .int x), (2, .int y), (3, .int ((bI el)))] := hl
  have hbN := hnb
  refine lv_aload_n hx hb dX6_needs_0 rfl (lv_at hl 0 rfl) ?_
  refine lv_iload_n hx hb dX6_needs_1 rfl (lv_at hl 1 rfl) ?_
  refine va_calli (va_runS (As := [.int x]) (rest := [.ref ((g 0))]) ⟨hx, hb, hml, hown, hts⟩ (c_X6_isReceiver l x) (va_cwS 1 hts gX6_needs_X6_isReceiver rfl rfl rfl (by decide +kernel) ⟨Nat.le_of_ble_eq_true rfl, Nat.le_of_ble_eq_true rfl⟩) ⟨wU_blind, fun U hU hW => ⟨rfl, trivial⟩⟩ rfl rfl hl.1 rfl (lv_room (Nat.le_of_ble_eq_true rfl)) dX6_needs_2 ⟨Nat.zero_le _, Nat.zero_le _⟩) hS (fun q _ h => h.elim) (fun q h => h.elim) (fun r_1 uu t H_1 locs_1 ht hvm hw hB hz1 hk1 hS => ?_)
  have hP := hP.same hk1
  obtain rfl : r_1 = (bI (inB x 0 2)) := hw
  refine lv_if_ne (tgt := 12) hx hb dX6_needs_5 (by decide) (fun c_2 => ?_) (fun c_2 => ?_)
  · refine lv_iload_n hx hb dX6_needs_12 rfl (lv_at hl 2 rfl) ?_
    refine lv_iconst (v := 0) hx hb dX6_needs_13 (by decide) ?_
    refine lv_sipush (v := 9899) hx hb dX6_needs_14 (by decide) ?_
    refine va_calli (va_runS (As := [.int y, .int 0, .int 9899]) (rest := [.ref ((g 0))]) ⟨hx, hb, hml, hown, hts⟩ (c_X6_in l y 0 9899) (va_cwS 3 hts gX6_needs_X6_in rfl rfl rfl (by decide +kernel) ⟨Nat.le_of_ble_eq_true rfl, Nat.le_of_ble_eq_true rfl⟩) ⟨wU_blind, fun U hU hW => ⟨rfl, trivial⟩⟩ rfl rfl hl.1 rfl (lv_room (Nat.le_of_ble_eq_true rfl)) dX6_needs_17 ⟨Nat.zero_le _, Nat.zero_le _⟩) hS (fun q _ h => h.elim) (fun q h => h.elim) (fun r_3 uu t H_3 locs_3 ht hvm hw hB hz1 hk1 hS => ?_)
    have hP := hP.same hk1
    obtain rfl : r_3 = (bI (inB y 0 9899)) := hw
    refine lv_if_ne (tgt := 27) hx hb dX6_needs_20 (by decide) (fun c_4 => ?_) (fun c_4 => ?_)
    · rw [hB2] at c_4; exact absurd rfl c_4
    · refine lv_iconst (v := 2) hx hb dX6_needs_23 (by decide) ?_
      refine lv_goto (tgt := 28) hx hb dX6_needs_24 (by decide) ?_
      refine va_calli (va_runV (As := [.int 2]) (rest := []) ⟨hx, hb, hml, hown, hts⟩ (c_X6_holds l E g (mdE nb va se rv) th aa sv ke tx ln ro ai wr dg 2) (cwV 1 hts gX6_needs_X6_holds rfl rfl rfl (by decide +kernel) ⟨Nat.le_of_ble_eq_true rfl, Nat.le_of_ble_eq_true rfl⟩) ⟨wS.blind, (w_recv hK hP 0 (by decide) rfl (ci := 6) rfl), fun U hU hW => wS.go hP hK hI hU hW⟩ rfl rfl hl.1 rfl (lv_room (Nat.le_of_ble_eq_true rfl)) dX6_needs_28 ⟨Nat.zero_le _, Nat.zero_le _⟩) hS (fun q _ h => h) (fun q h => h) (fun r_5 uu t H_5 locs_5 ht hvm hw hB hz1 hk1 hS => ?_)
      rw [ht] at hB
      have hP : wP E 6 g (moF E g 2 (mdE nb va se rv) aa sv ke tx ln ro ai wr dg) H_5 := hB
      obtain rfl : r_5 = 0 := hw
      refine lv_if_eq (tgt := 44) hx hb dX6_needs_31 (by decide) (fun c_6 => ?_) (fun c_6 => ?_)
      · refine lv_iconst (v := 0) hx hb dX6_needs_44 (by decide) ?_
        exact W.iret (v := 0) hx hb hr (fun t ht hW => ⟨⟨_, (), rfl, rfl, (by show MOB E g 2 ln tx nb va se rc ke hs (t.heap); rw [ht]; exact ⟨sv, _, _, _, ⟨_, _, _, hP, hrv⟩, hsv, hke, hln, hnb2, hnb⟩)⟩, hS.F ht⟩) hS.2.2 dX6_needs_45
      · exact absurd rfl c_6
  · rw [hB1] at c_2; exact absurd c_2 (by decide)
set_option maxHeartbeats 4000000 in
set_option maxRecDepth 100000 in
theorem c_X6_ifEliminated_ok (l : Launch) (E : wE) (g : Nat → Nat) (th : Int32) (ln : Nat) (tx : Nat → Int32) (nb : Nat) (va : Nat → Int32) (se : Int32) (rc : Nat → MR) (ke : Nat) (hs : Nat → MS) (u : Nat) (hu3 : u < 3) : Met l yX6_ifEliminated wsX6_ifEliminated ({ frames := 3, cells := 0, slots := 0, locals := 70 }) (va_Pc [.ref ((g 0)), .int (nI u)] (wS E 6 g (MOB E g th ln tx nb va se rc ke hs))) (va_Qi (fun (r : Int32) (_ : Unit) => r = nI (pc (alnM (redW (rc u).2.2.2.2.2)))) (fun _ t => MOB E g 0 ln tx nb va se rc ke hs (t.heap)) (wF 6 g)) 0 0 (wF 6 g) := by
  refine Met.ofW (cc := cX6_ifEliminated) (maxL := 2) (ret := (some .int)) (by decide) rfl ?_
  intro p e s m args below meth c s₁ B hml hv
  obtain ⟨rfl, ⟨sv, ai, wr, dg, ⟨aa, ro, rv, hP, hrv⟩, hsv, hke, hln, hnb2, hnb⟩, hK, hI⟩ := hv
  have hx := B.exec
  have hb := B.bytes
  have hr := B.returns
  have hts := atoms_spec (ws := wsX6_ifEliminated) B.pre
  have hown : s.vm.findClass RX6 = some m.cls := findClass_of_methodNamed B.named
  have hlocks := B.notSynchronized
  have hS : va_S (wF 6 g) s.heap s.heap [] := va_S.rf
  have hA : ∀ k, k < 6 → (wF 6 g) (g k) := wF_in
  have hl := lv_entry ([.ref ((g 0)), .int (nI u)]) (n := 2) (Nat.le_of_ble_eq_true rfl)
  rw [lg_entry_eq]
  generalize (lg_sl ([.ref ((g 0)), .int (nI u)]) ++ List.replicate (2 - (lg_sl ([.ref ((g 0)), .int (nI u)])).length) Slot.unset).toArray = ls at hl ⊢
  have hl : lv_has ls 2 [(0, .ref ((g 0))), (1, .int (nI u))] := hl
  have hbN := hnb
  have hB1 : inB (nI u) 0 2 = true := inB_t (n := u) (a := 0) (b := 2) rfl rfl rfl (by omega) (by omega) (by omega)
  refine lv_aload_n hx hb dX6_ifEliminated_0 rfl (lv_at hl 0 rfl) ?_
  refine lv_iload_n hx hb dX6_ifEliminated_1 rfl (lv_at hl 1 rfl) ?_
  refine va_calli (va_runS (As := [.int (nI u)]) (rest := [.ref ((g 0))]) ⟨hx, hb, hml, hown, hts⟩ (c_X6_isReceiver l (nI u)) (va_cwS 1 hts gX6_ifEliminated_X6_isReceiver rfl rfl rfl (by decide +kernel) ⟨Nat.le_of_ble_eq_true rfl, Nat.le_of_ble_eq_true rfl⟩) ⟨wU_blind, fun U hU hW => ⟨rfl, trivial⟩⟩ rfl rfl hl.1 rfl (lv_room (Nat.le_of_ble_eq_true rfl)) dX6_ifEliminated_2 ⟨Nat.zero_le _, Nat.zero_le _⟩) hS (fun q _ h => h.elim) (fun q h => h.elim) (fun r_1 uu t H_1 locs_1 ht hvm hw hB hz1 hk1 hS => ?_)
  have hP := hP.same hk1
  obtain rfl : r_1 = (bI (inB (nI u) 0 2)) := hw
  refine lv_if_eq (tgt := 12) hx hb dX6_ifEliminated_5 (by decide) (fun c_2 => ?_) (fun c_2 => ?_)
  · rw [hB1] at c_2; exact absurd c_2 (by decide)
  · refine lv_iconst (v := 0) hx hb dX6_ifEliminated_8 (by decide) ?_
    refine lv_goto (tgt := 13) hx hb dX6_ifEliminated_9 (by decide) ?_
    refine va_calli (va_runV (As := [.int 0]) (rest := []) ⟨hx, hb, hml, hown, hts⟩ (c_X6_holds l E g (mdE nb va se rv) th aa sv ke tx ln ro ai wr dg 0) (cwV 1 hts gX6_ifEliminated_X6_holds rfl rfl rfl (by decide +kernel) ⟨Nat.le_of_ble_eq_true rfl, Nat.le_of_ble_eq_true rfl⟩) ⟨wS.blind, (w_recv hK hP 0 (by decide) rfl (ci := 6) rfl), fun U hU hW => wS.go hP hK hI hU hW⟩ rfl rfl hl.1 rfl (lv_room (Nat.le_of_ble_eq_true rfl)) dX6_ifEliminated_13 ⟨Nat.zero_le _, Nat.zero_le _⟩) hS (fun q _ h => h) (fun q h => h) (fun r_3 uu t H_3 locs_3 ht hvm hw hB hz1 hk1 hS => ?_)
    rw [ht] at hB
    have hP : wP E 6 g (moF E g 0 (mdE nb va se rv) aa sv ke tx ln ro ai wr dg) H_3 := hB
    obtain rfl : r_3 = 1 := hw
    refine lv_if_eq (tgt := 30) hx hb dX6_ifEliminated_16 (by decide) (fun c_4 => ?_) (fun c_4 => ?_)
    · exact absurd c_4 (by decide)
    · refine lv_aload_n hx hb dX6_ifEliminated_19 rfl (lv_at hl 0 rfl) ?_
      refine lv_iload_n hx hb dX6_ifEliminated_20 rfl (lv_at hl 1 rfl) ?_
      have hu3 : u < 3 := by omega
      have hri_5 := hrv u hu3
      obtain ⟨w_5, hv_5, hw_5, hok_5⟩ := hri_5
      rw [show rv = va_up rv u (rvE ((rc u).1) ((rc u).2.1) ((rc u).2.2.1) ((rc u).2.2.2.1) ((rc u).2.2.2.2.1) ((rc u).2.2.2.2.2.length) w_5) from by rw [← hv_5, va_up_id]] at hP
      have hkk_5 := hok_5.2.1
      have hll_5 := hok_5.1
      refine va_calli (va_runV (As := [.int (nI u)]) (rest := []) ⟨hx, hb, hml, hown, hts⟩ (c_X6_alone l E g 0 aa sv ke tx ln ro ai wr dg nb va se rv u ((rc u).1) ((rc u).2.1) ((rc u).2.2.1) ((rc u).2.2.2.1) ((rc u).2.2.2.2.1) ((rc u).2.2.2.2.2) hu3 ) (cwV 1 hts gX6_ifEliminated_X6_alone rfl rfl rfl (by decide +kernel) ⟨Nat.le_of_ble_eq_true rfl, Nat.le_of_ble_eq_true rfl⟩) ⟨wS.blind, (w_recv hK hP 0 (by decide) rfl (ci := 6) rfl), fun U hU hW => wS.go ⟨_, hP, hw_5, hok_5⟩ hK hI hU hW⟩ rfl rfl hl.1 rfl (lv_room (Nat.le_of_ble_eq_true rfl)) dX6_ifEliminated_21 ⟨Nat.zero_le _, Nat.zero_le _⟩) hS (fun q _ h => h) (fun q h => h) (fun r_6 uu t H_6 locs_6 ht hvm hw hB hz1 hk1 hS => ?_)
      rw [ht] at hB
      obtain ⟨ro_6, w_6, hP, hw_6, hok_6⟩ := hB
      have hP : wP E 6 g (moF E g 0 (mdE nb va se (va_up rv u (rvE ((rc u).1) ((rc u).2.1) ((rc u).2.2.1) ((rc u).2.2.2.1) ((rc u).2.2.2.2.1) (((rc u).2.2.2.2.2).length) w_6))) aa sv ke tx ln ro_6 ai wr dg) H_6 := hP
      have hkk_6 := hok_6.2.1
      have hal := alnM_lt hok_5.2.2
      obtain rfl : r_6 = (nI (alnM (redW ((rc u).2.2.2.2.2)))) := hw
      have hrz_7 : ∀ j9, j9 < 3 → rvP (rc j9) ((va_up rv u (rvE ((rc u).1) ((rc u).2.1) ((rc u).2.2.1) ((rc u).2.2.2.1) ((rc u).2.2.2.2.1) (((rc u).2.2.2.2.2).length) w_6)) j9) := rvP_id hrv ⟨w_6, rfl, hw_6, hok_6⟩
      refine va_calli (va_runS (As := [.int ((nI (alnM (redW ((rc u).2.2.2.2.2)))))]) (rest := []) ⟨hx, hb, hml, hown, hts⟩ (c_X6_bits l (alnM (redW ((rc u).2.2.2.2.2))) (by omega)) (va_cwS 1 hts gX6_ifEliminated_X6_bits rfl rfl rfl (by decide +kernel) ⟨Nat.le_of_ble_eq_true rfl, Nat.le_of_ble_eq_true rfl⟩) ⟨wU_blind, fun U hU hW => ⟨rfl, trivial⟩⟩ rfl rfl hl.1 rfl (lv_room (Nat.le_of_ble_eq_true rfl)) dX6_ifEliminated_24 ⟨Nat.zero_le _, Nat.zero_le _⟩) hS (fun q _ h => h.elim) (fun q h => h.elim) (fun r_9 uu t H_9 locs_9 ht hvm hw hB hz1 hk1 hS => ?_)
      have hP := hP.same hk1
      have hpl_8 := pc_le (alnM (redW ((rc u).2.2.2.2.2)))
      obtain rfl : r_9 = (nI (pc (alnM (redW ((rc u).2.2.2.2.2))))) := hw
      refine lv_goto (tgt := 31) hx hb dX6_ifEliminated_27 (by decide) ?_
      exact W.iret (v := (nI (pc (alnM (redW ((rc u).2.2.2.2.2)))))) hx hb hr (fun t ht hW => ⟨⟨_, (), rfl, rfl, (by show MOB E g 0 ln tx nb va se rc ke hs (t.heap); rw [ht]; exact ⟨sv, _, _, _, ⟨_, _, _, hP, hrz_7⟩, hsv, hke, hln, hnb2, hnb⟩)⟩, hS.F ht⟩) hS.2.2 dX6_ifEliminated_31
set_option maxHeartbeats 4000000 in
set_option maxRecDepth 100000 in
theorem c_X6_ifEliminated_no (l : Launch) (E : wE) (g : Nat → Nat) (th : Int32) (ln : Nat) (tx : Nat → Int32) (nb : Nat) (va : Nat → Int32) (se : Int32) (rc : Nat → MR) (ke : Nat) (hs : Nat → MS) (x : Int32) (hB1 : inB x 0 2 = false) : Met l yX6_ifEliminated wsX6_ifEliminated ({ frames := 3, cells := 0, slots := 0, locals := 70 }) (va_Pc [.ref ((g 0)), .int x] (wS E 6 g (MOB E g th ln tx nb va se rc ke hs))) (va_Qi (fun (r : Int32) (_ : Unit) => r = 0) (fun _ t => MOB E g 1 ln tx nb va se rc ke hs (t.heap)) (wF 6 g)) 0 0 (wF 6 g) := by
  refine Met.ofW (cc := cX6_ifEliminated) (maxL := 2) (ret := (some .int)) (by decide) rfl ?_
  intro p e s m args below meth c s₁ B hml hv
  obtain ⟨rfl, ⟨sv, ai, wr, dg, ⟨aa, ro, rv, hP, hrv⟩, hsv, hke, hln, hnb2, hnb⟩, hK, hI⟩ := hv
  have hx := B.exec
  have hb := B.bytes
  have hr := B.returns
  have hts := atoms_spec (ws := wsX6_ifEliminated) B.pre
  have hown : s.vm.findClass RX6 = some m.cls := findClass_of_methodNamed B.named
  have hlocks := B.notSynchronized
  have hS : va_S (wF 6 g) s.heap s.heap [] := va_S.rf
  have hA : ∀ k, k < 6 → (wF 6 g) (g k) := wF_in
  have hl := lv_entry ([.ref ((g 0)), .int x]) (n := 2) (Nat.le_of_ble_eq_true rfl)
  rw [lg_entry_eq]
  generalize (lg_sl ([.ref ((g 0)), .int x]) ++ List.replicate (2 - (lg_sl ([.ref ((g 0)), .int x])).length) Slot.unset).toArray = ls at hl ⊢
  have hl : lv_has ls 2 [(0, .ref ((g 0))), (1, .int x)] := hl
  have hbN := hnb
  refine lv_aload_n hx hb dX6_ifEliminated_0 rfl (lv_at hl 0 rfl) ?_
  refine lv_iload_n hx hb dX6_ifEliminated_1 rfl (lv_at hl 1 rfl) ?_
  refine va_calli (va_runS (As := [.int x]) (rest := [.ref ((g 0))]) ⟨hx, hb, hml, hown, hts⟩ (c_X6_isReceiver l x) (va_cwS 1 hts gX6_ifEliminated_X6_isReceiver rfl rfl rfl (by decide +kernel) ⟨Nat.le_of_ble_eq_true rfl, Nat.le_of_ble_eq_true rfl⟩) ⟨wU_blind, fun U hU hW => ⟨rfl, trivial⟩⟩ rfl rfl hl.1 rfl (lv_room (Nat.le_of_ble_eq_true rfl)) dX6_ifEliminated_2 ⟨Nat.zero_le _, Nat.zero_le _⟩) hS (fun q _ h => h.elim) (fun q h => h.elim) (fun r_1 uu t H_1 locs_1 ht hvm hw hB hz1 hk1 hS => ?_)
  have hP := hP.same hk1
  obtain rfl : r_1 = (bI (inB x 0 2)) := hw
  refine lv_if_eq (tgt := 12) hx hb dX6_ifEliminated_5 (by decide) (fun c_2 => ?_) (fun c_2 => ?_)
  · refine lv_iconst (v := 1) hx hb dX6_ifEliminated_12 (by decide) ?_
    refine va_calli (va_runV (As := [.int 1]) (rest := []) ⟨hx, hb, hml, hown, hts⟩ (c_X6_holds l E g (mdE nb va se rv) th aa sv ke tx ln ro ai wr dg 1) (cwV 1 hts gX6_ifEliminated_X6_holds rfl rfl rfl (by decide +kernel) ⟨Nat.le_of_ble_eq_true rfl, Nat.le_of_ble_eq_true rfl⟩) ⟨wS.blind, (w_recv hK hP 0 (by decide) rfl (ci := 6) rfl), fun U hU hW => wS.go hP hK hI hU hW⟩ rfl rfl hl.1 rfl (lv_room (Nat.le_of_ble_eq_true rfl)) dX6_ifEliminated_13 ⟨Nat.zero_le _, Nat.zero_le _⟩) hS (fun q _ h => h) (fun q h => h) (fun r_3 uu t H_3 locs_3 ht hvm hw hB hz1 hk1 hS => ?_)
    rw [ht] at hB
    have hP : wP E 6 g (moF E g 1 (mdE nb va se rv) aa sv ke tx ln ro ai wr dg) H_3 := hB
    obtain rfl : r_3 = 0 := hw
    refine lv_if_eq (tgt := 30) hx hb dX6_ifEliminated_16 (by decide) (fun c_4 => ?_) (fun c_4 => ?_)
    · refine lv_iconst (v := 0) hx hb dX6_ifEliminated_30 (by decide) ?_
      exact W.iret (v := 0) hx hb hr (fun t ht hW => ⟨⟨_, (), rfl, rfl, (by show MOB E g 1 ln tx nb va se rc ke hs (t.heap); rw [ht]; exact ⟨sv, _, _, _, ⟨_, _, _, hP, hrv⟩, hsv, hke, hln, hnb2, hnb⟩)⟩, hS.F ht⟩) hS.2.2 dX6_ifEliminated_31
    · exact absurd rfl c_4
  · rw [hB1] at c_2; exact absurd rfl c_2
