set_option maxHeartbeats 4000000 in
set_option maxRecDepth 100000 in
theorem c_X5_countOf (l : Launch) (E : wE) (g : Nat → Nat) (ln : Nat) (bf : Nat → Int32) (z : SS) (ke : Nat) (hs : Nat → SS) (j : Nat) (hj6 : j < 6) : Met l yX5_countOf wsX5_countOf ({ frames := 4, cells := 0, slots := 0, locals := 84 }) (va_Pc [.ref ((g 0)), .int (nI j)] (wS E 94 g (MB E g ln bf z ke hs))) (va_Qi (fun (r : Int32) (_ : Unit) => r = countF z ke j) (fun _ t => True) wN) 0 0 wN := by
  refine Met.ofW (cc := cX5_countOf) (maxL := 2) (ret := (some .int)) (by decide) rfl ?_
  intro p e s m args below meth c s₁ B hml hv
  obtain ⟨rfl, ⟨ol, zs, ⟨hol, hke, hzs, hln, hnb2, hnb⟩, hM, ⟨⟨pa, hPa⟩, ⟨el, hEl⟩, ⟨tli, tq, hTr⟩⟩, hN, hHi, hHs⟩, hK, hI⟩ := hv
  have hx := B.exec
  have hb := B.bytes
  have hr := B.returns
  have hts := atoms_spec (ws := wsX5_countOf) B.pre
  have hown : s.vm.findClass RX5 = some m.cls := findClass_of_methodNamed B.named
  have hlocks := B.notSynchronized
  have hS : va_S wN s.heap s.heap [] := va_S.rf
  have hin1 : ∀ w ∈ wsX10, w ∈ wsX5_countOf := by decide +kernel
  have hin4 : ∀ w ∈ wsX40, w ∈ wsX5_countOf := by decide +kernel
  have hin5 : ∀ w ∈ wsX50, w ∈ wsX5_countOf := by decide +kernel
  have hl := lv_entry ([.ref ((g 0)), .int (nI j)]) (n := 2) (Nat.le_of_ble_eq_true rfl)
  rw [lg_entry_eq]
  generalize (lg_sl ([.ref ((g 0)), .int (nI j)]) ++ List.replicate (2 - (lg_sl ([.ref ((g 0)), .int (nI j)])).length) Slot.unset).toArray = ls at hl ⊢
  have hl : lv_has ls 2 [(0, .ref ((g 0))), (1, .int (nI j))] := hl
  have hN : stP E (off g 8) z.1 z.2.1 z.2.2.1 z.2.2.2 s.heap := hN
  refine lv_iload_n hx hb dX5_countOf_0 rfl (lv_at hl 1 rfl) ?_
  obtain rfl | rfl | rfl | rfl | rfl | rfl : j = 0 ∨ j = 1 ∨ j = 2 ∨ j = 3 ∨ j = 4 ∨ j = 5 := by omega
  · refine lv_tableIn (off := 35) (tgt := 36) hx hb dX5_countOf_1 (by decide) (by decide) (by decide +kernel) (by decide) ?_
    refine lv_aload_n hx hb dX5_countOf_36 rfl (lv_at hl 0 rfl) ?_
    refine w_get (C := RX5) (T := TX5) (N := 7) (ci := 5) (v := .ref ((g 8))) hx hb hts hin5 hown hK hM 0 (by decide) rfl rfl 0 (by decide) (hts (.fieldLink RX5 12 "MixedBlocks" "now" "LMixedBlocks$State;") (List.mem_of_getElem? (i := 1) rfl)) (fun _ h9 => h9) rfl dX5_countOf_37 ?_
    refine w_getN (C := RX4) (T := TX4) (N := 4) (ci := 4) (v := .int (nI z.1)) hx hb hts hin4 hown hK hN.1 0 (by decide) rfl rfl 0 (by decide) nf_X5_63 (fun _ h9 => h9) rfl dX5_countOf_40 ?_
    exact W.iret (v := (nI z.1)) hx hb hr (fun t ht hW => ⟨⟨_, (), rfl, rfl, trivial⟩, hS.F ht⟩) hS.2.2 dX5_countOf_43
  · refine lv_tableIn (off := 43) (tgt := 44) hx hb dX5_countOf_1 (by decide) (by decide) (by decide +kernel) (by decide) ?_
    refine lv_aload_n hx hb dX5_countOf_44 rfl (lv_at hl 0 rfl) ?_
    refine w_get (C := RX5) (T := TX5) (N := 7) (ci := 5) (v := .ref ((g 8))) hx hb hts hin5 hown hK hM 0 (by decide) rfl rfl 0 (by decide) (hts (.fieldLink RX5 12 "MixedBlocks" "now" "LMixedBlocks$State;") (List.mem_of_getElem? (i := 1) rfl)) (fun _ h9 => h9) rfl dX5_countOf_45 ?_
    refine w_getN (C := RX4) (T := TX4) (N := 4) (ci := 4) (v := .int z.2.2.1) hx hb hts hin4 hown hK hN.1 0 (by decide) rfl rfl 2 (by decide) nf_X5_272 (fun _ h9 => h9) rfl dX5_countOf_48 ?_
    exact W.iret (v := z.2.2.1) hx hb hr (fun t ht hW => ⟨⟨_, (), rfl, rfl, trivial⟩, hS.F ht⟩) hS.2.2 dX5_countOf_51
  · refine lv_tableIn (off := 51) (tgt := 52) hx hb dX5_countOf_1 (by decide) (by decide) (by decide +kernel) (by decide) ?_
    refine lv_aload_n hx hb dX5_countOf_52 rfl (lv_at hl 0 rfl) ?_
    refine w_get (C := RX5) (T := TX5) (N := 7) (ci := 5) (v := .ref ((g 8))) hx hb hts hin5 hown hK hM 0 (by decide) rfl rfl 0 (by decide) (hts (.fieldLink RX5 12 "MixedBlocks" "now" "LMixedBlocks$State;") (List.mem_of_getElem? (i := 1) rfl)) (fun _ h9 => h9) rfl dX5_countOf_53 ?_
    refine va_calli (va_runV (As := []) (rest := []) ⟨hx, hb, hml, hown, hts⟩ (c_X4_listening l E (off g 8) z.1 z.2.1 z.2.2.1 z.2.2.2) (cwV 0 hts gX5_countOf_X4_listening rfl rfl rfl (by decide +kernel) ⟨Nat.le_of_ble_eq_true rfl, Nat.le_of_ble_eq_true rfl⟩) ⟨wS.blind, (w_recv hK hN.1 0 (by decide) rfl (ci := 4) rfl), fun U hU hW => wS.go hN hK (off_I hI (by decide)) hU hW⟩ rfl rfl hl.1 rfl (lv_room (Nat.le_of_ble_eq_true rfl)) dX5_countOf_56 ⟨Nat.zero_le _, Nat.zero_le _⟩) hS (fun q _ h => h.elim) (fun q h => h.elim) (fun r_1 uu t H_1 locs_1 ht hvm hw hB hz1 hk1 hS => ?_)
    have hM := hM.same hk1
    have hPa := hPa.same hk1
    have hEl := hEl.same hk1
    have hTr := hTr.same hk1
    have hN := hN.same hk1
    have hHi := hHi.same hk1
    have hHs := hHs.same hk1
    obtain rfl : r_1 = (nI (cntR (fun r => r.1) z.2.2.2 3)) := hw
    exact W.iret (v := (nI (cntR (fun r => r.1) z.2.2.2 3))) hx hb hr (fun t ht hW => ⟨⟨_, (), rfl, rfl, trivial⟩, hS.F ht⟩) hS.2.2 dX5_countOf_59
  · refine lv_tableIn (off := 59) (tgt := 60) hx hb dX5_countOf_1 (by decide) (by decide) (by decide +kernel) (by decide) ?_
    refine lv_aload_n hx hb dX5_countOf_60 rfl (lv_at hl 0 rfl) ?_
    refine w_get (C := RX5) (T := TX5) (N := 7) (ci := 5) (v := .ref ((g 8))) hx hb hts hin5 hown hK hM 0 (by decide) rfl rfl 0 (by decide) (hts (.fieldLink RX5 12 "MixedBlocks" "now" "LMixedBlocks$State;") (List.mem_of_getElem? (i := 1) rfl)) (fun _ h9 => h9) rfl dX5_countOf_61 ?_
    refine va_calli (va_runV (As := []) (rest := []) ⟨hx, hb, hml, hown, hts⟩ (c_X4_done l E (off g 8) z.1 z.2.1 z.2.2.1 z.2.2.2) (cwV 0 hts gX5_countOf_X4_done rfl rfl rfl (by decide +kernel) ⟨Nat.le_of_ble_eq_true rfl, Nat.le_of_ble_eq_true rfl⟩) ⟨wS.blind, (w_recv hK hN.1 0 (by decide) rfl (ci := 4) rfl), fun U hU hW => wS.go hN hK (off_I hI (by decide)) hU hW⟩ rfl rfl hl.1 rfl (lv_room (Nat.le_of_ble_eq_true rfl)) dX5_countOf_64 ⟨Nat.zero_le _, Nat.zero_le _⟩) hS (fun q _ h => h.elim) (fun q h => h.elim) (fun r_2 uu t H_2 locs_2 ht hvm hw hB hz1 hk1 hS => ?_)
    have hM := hM.same hk1
    have hPa := hPa.same hk1
    have hEl := hEl.same hk1
    have hTr := hTr.same hk1
    have hN := hN.same hk1
    have hHi := hHi.same hk1
    have hHs := hHs.same hk1
    obtain rfl : r_2 = (nI (cntR (isDn z.1) z.2.2.2 3)) := hw
    exact W.iret (v := (nI (cntR (isDn z.1) z.2.2.2 3))) hx hb hr (fun t ht hW => ⟨⟨_, (), rfl, rfl, trivial⟩, hS.F ht⟩) hS.2.2 dX5_countOf_67
  · refine lv_tableIn (off := 67) (tgt := 68) hx hb dX5_countOf_1 (by decide) (by decide) (by decide +kernel) (by decide) ?_
    refine lv_aload_n hx hb dX5_countOf_68 rfl (lv_at hl 0 rfl) ?_
    refine w_get (C := RX5) (T := TX5) (N := 7) (ci := 5) (v := .ref ((g 8))) hx hb hts hin5 hown hK hM 0 (by decide) rfl rfl 0 (by decide) (hts (.fieldLink RX5 12 "MixedBlocks" "now" "LMixedBlocks$State;") (List.mem_of_getElem? (i := 1) rfl)) (fun _ h9 => h9) rfl dX5_countOf_69 ?_
    refine va_calli (va_runV (As := []) (rest := []) ⟨hx, hb, hml, hown, hts⟩ (c_X4_allTogether l E (off g 8) z.1 z.2.1 z.2.2.1 z.2.2.2 (by omega)) (cwV 0 hts gX5_countOf_X4_allTogether rfl rfl rfl (by decide +kernel) ⟨Nat.le_of_ble_eq_true rfl, Nat.le_of_ble_eq_true rfl⟩) ⟨wS.blind, (w_recv hK hN.1 0 (by decide) rfl (ci := 4) rfl), fun U hU hW => wS.go hN hK (off_I hI (by decide)) hU hW⟩ rfl rfl hl.1 rfl (lv_room (Nat.le_of_ble_eq_true rfl)) dX5_countOf_72 ⟨Nat.zero_le _, Nat.zero_le _⟩) hS (fun q _ h => h.elim) (fun q h => h.elim) (fun r_3 uu t H_3 locs_3 ht hvm hw hB hz1 hk1 hS => ?_)
    have hM := hM.same hk1
    have hPa := hPa.same hk1
    have hEl := hEl.same hk1
    have hTr := hTr.same hk1
    have hN := hN.same hk1
    have hHi := hHi.same hk1
    have hHs := hHs.same hk1
    obtain rfl : r_3 = (allT z.2.1 z.1) := hw
    exact W.iret (v := (allT z.2.1 z.1)) hx hb hr (fun t ht hW => ⟨⟨_, (), rfl, rfl, trivial⟩, hS.F ht⟩) hS.2.2 dX5_countOf_75
  · refine lv_tableOut (tgt := 76) hx hb dX5_countOf_1 (by decide) (by decide) ?_
    refine lv_aload_n hx hb dX5_countOf_76 rfl (lv_at hl 0 rfl) ?_
    refine w_get (C := RX5) (T := TX5) (N := 7) (ci := 5) (v := .ref ((g 20))) hx hb hts hin5 hown hK hM 0 (by decide) rfl rfl 1 (by decide) (hts (.fieldLink RX5 19 "MixedBlocks" "history" "LMixedBlocks$History;") (List.mem_of_getElem? (i := 2) rfl)) (fun _ h9 => h9) rfl dX5_countOf_77 ?_
    refine w_getN (C := RX1) (T := TX1) (N := 3) (ci := 1) (v := .int (nI ke)) hx hb hts hin1 hown hK hHi 0 (by decide) rfl rfl 2 (by decide) nf_X5_138 (fun _ h9 => h9) rfl dX5_countOf_80 ?_
    exact W.iret (v := (nI ke)) hx hb hr (fun t ht hW => ⟨⟨_, (), rfl, rfl, trivial⟩, hS.F ht⟩) hS.2.2 dX5_countOf_83
set_option maxHeartbeats 4000000 in
set_option maxRecDepth 100000 in
theorem c_X5_count (l : Launch) (hst : l.stackTraces = false) (E : wE) (g : Nat → Nat) (ln : Nat) (bf : Nat → Int32) (z : SS) (ke : Nat) (hs : Nat → SS) (w0 : Int32) : vx_Met l yX5_count wsX5_count ({ frames := 7, cells := 1, slots := 6, locals := 111 }) (va_Pc [.ref ((g 0)), .int w0] (wSx E 94 g (wF 94 g) (MB E g ln bf z ke hs))) (va_Qi (fun (r : Int32) (_ : Unit) => r = countF z ke w0.toNatClampNeg) (fun _ t => vp_in w0 6 ∧ MB E g ln bf z ke hs (t.heap)) (wF 94 g)) (vx_X (S := Unit) (fun _ => True) (fun Ex _ t => (Ex = "java/lang/IllegalArgumentException" ∧ ¬ vp_in w0 6) ∧ MB E g ln bf z ke hs (t.heap)) (wF 94 g)) 1 6 (wF 94 g) := by
  refine vx_ofW (cc := cX5_count) (maxL := 2) (ret := (some .int)) (by decide) rfl ?_
  intro p e s m args below meth c s₁ B hml hno hv
  obtain ⟨rfl, ⟨ol, zs, ⟨hol, hke, hzs, hln, hnb2, hnb⟩, hM, ⟨⟨pa, hPa⟩, ⟨el, hEl⟩, ⟨tli, tq, hTr⟩⟩, hN, hHi, hHs⟩, hK, hI, hxe⟩ := hv
  have hx := B.exec
  have hb := B.bytes
  have hr := B.returns
  have hts := atoms_spec (ws := wsX5_count) B.pre
  have hown : s.vm.findClass RX5 = some m.cls := findClass_of_methodNamed B.named
  have hlocks := B.notSynchronized
  have hS : va_S (wF 94 g) s.heap s.heap [] := va_S.rf
  have hl := lv_entry ([.ref ((g 0)), .int w0]) (n := 2) (Nat.le_of_ble_eq_true rfl)
  rw [lg_entry_eq]
  generalize (lg_sl ([.ref ((g 0)), .int w0]) ++ List.replicate (2 - (lg_sl ([.ref ((g 0)), .int w0])).length) Slot.unset).toArray = ls at hl ⊢
  have hl : lv_has ls 2 [(0, .ref ((g 0))), (1, .int w0)] := hl
  have hN : stP E (off g 8) z.1 z.2.1 z.2.2.1 z.2.2.2 s.heap := hN
  refine lv_iload_n hx hb dX5_count_0 rfl (lv_at hl 1 rfl) ?_
  refine lv_bipush (v := 6) hx hb dX5_count_1 (by decide) ?_
  refine vx_callv (vx_runS (As := [.int w0, .int 6]) (rest := []) ⟨hx, hb, hml, hown, hts⟩ (c_X5_checkWhat l hst E w0 6 (by decide)) (va_cwS 2 hts gX5_count_X5_checkWhat rfl rfl rfl (by decide +kernel) ⟨Nat.le_of_ble_eq_true rfl, Nat.le_of_ble_eq_true rfl⟩) ⟨wSx.blind, fun U hU hW => wSx.go trivial hK wI0 hxe hS (fun q h => h.elim) hU hW⟩ rfl rfl hl.1 rfl (lv_room (Nat.le_of_ble_eq_true rfl)) dX5_count_3 ⟨Nat.le_of_ble_eq_true rfl, Nat.le_of_ble_eq_true rfl⟩) hS (fun q _ h => h.elim) (fun q h => h.elim) (fun q _ h => h.elim) (fun E9 ce9 q9 uu t H_1 locs_1 ht hvm hpx hbx hz1 hk1 hS hc9 hv9 hf9 => ?_) (fun uu t H_1 locs_1 ht hvm hw hB hz1 hk1 hS => ?_)
  · have hM := hM.same hk1
    have hPa := hPa.same hk1
    have hEl := hEl.same hk1
    have hTr := hTr.same hk1
    have hN := hN.same hk1
    have hHi := hHi.same hk1
    have hHs := hHs.same hk1
    exact vx_out (fun x hx => (hno x hx).elim) hlocks hc9 hv9 hf9 (fun t2 ht2 hvm2 => ⟨(), trivial, ⟨⟨hbx.1, hbx.2⟩, (by rw [ht2]; exact ⟨ol, zs, ⟨hol, hke, hzs, hln, hnb2, hnb⟩, hM, ⟨⟨(pa.1, pa.2.1, pa.2.2), hPa⟩, ⟨(el.1, el.2), hEl⟩, ⟨tli, tq, hTr⟩⟩, hN, hHi, hHs⟩)⟩, hS.F ht2⟩) hS.2.2 (Nat.le_of_ble_eq_true rfl) (Nat.le_of_ble_eq_true rfl)
  have hc_j := hB
  have hM := hM.same hk1
  have hPa := hPa.same hk1
  have hEl := hEl.same hk1
  have hTr := hTr.same hk1
  have hN := hN.same hk1
  have hHi := hHi.same hk1
  have hHs := hHs.same hk1
  obtain ⟨j, hn_j, rfl⟩ := vp_in_of hc_j (show 6 < 2 ^ 31 by decide)
  refine lv_aload_n hx hb dX5_count_6 rfl (lv_at hl 0 rfl) ?_
  refine lv_iload_n hx hb dX5_count_7 rfl (lv_at hl 1 rfl) ?_
  refine va_calli (va_runV (As := [.int ((nI j))]) (rest := []) ⟨hx, hb, hml, hown, hts⟩ (c_X5_countOf l E g ln bf z ke hs j (by omega)) (cwV 1 hts gX5_count_X5_countOf rfl rfl rfl (by decide +kernel) ⟨Nat.le_of_ble_eq_true rfl, Nat.le_of_ble_eq_true rfl⟩) ⟨wS.blind, (w_recv hK hM 0 (by decide) rfl (ci := 5) rfl), fun U hU hW => wS.go ⟨ol, zs, ⟨hol, hke, hzs, hln, hnb2, hnb⟩, hM, ⟨⟨(pa.1, pa.2.1, pa.2.2), hPa⟩, ⟨(el.1, el.2), hEl⟩, ⟨tli, tq, hTr⟩⟩, hN, hHi, hHs⟩ hK hI hU hW⟩ rfl rfl hl.1 rfl (lv_room (Nat.le_of_ble_eq_true rfl)) dX5_count_8 ⟨Nat.le_of_ble_eq_true rfl, Nat.le_of_ble_eq_true rfl⟩) hS (fun q _ h => h.elim) (fun q h => h.elim) (fun r_2 uu t H_2 locs_2 ht hvm hw hB hz1 hk1 hS => ?_)
  have hM := hM.same hk1
  have hPa := hPa.same hk1
  have hEl := hEl.same hk1
  have hTr := hTr.same hk1
  have hN := hN.same hk1
  have hHi := hHi.same hk1
  have hHs := hHs.same hk1
  obtain rfl : r_2 = (countF z ke j) := hw
  refine vx_ret ?_
  refine W.widen (k := 1) (n := 6) (Nat.le_of_ble_eq_true rfl) (Nat.le_of_ble_eq_true rfl) ?_
  have hclj : (nI j).toNatClampNeg = j := nI_clamp (by omega)
  exact W.iret (v := (countF z ke j)) hx hb hr (fun t ht hW => ⟨⟨_, (), rfl, (by show _ = _; rw [hclj]), (by show vp_in (nI j) 6 ∧ MB E g ln bf z ke hs t.heap; rw [ht]; exact ⟨hc_j, ⟨ol, zs, ⟨hol, hke, hzs, hln, hnb2, hnb⟩, hM, ⟨⟨(pa.1, pa.2.1, pa.2.2), hPa⟩, ⟨(el.1, el.2), hEl⟩, ⟨tli, tq, hTr⟩⟩, hN, hHi, hHs⟩⟩)⟩, hS.F ht⟩) hS.2.2 dX5_count_11
set_option maxHeartbeats 4000000 in
set_option maxRecDepth 100000 in
theorem c_X5_mix (l : Launch) (hst : l.stackTraces = false) (E : wE) (g : Nat → Nat) (ln : Nat) (bf : Nat → Int32) (z : SS) (ke : Nat) (hs : Nat → SS) (x w0 : Int32) : vx_Met l yX5_mix wsX5_mix ({ frames := 7, cells := 2, slots := 12, locals := 126 }) (va_Pc [.ref ((g 0)), .int x, .int w0] (wSx E 94 g (wF 94 g) (MB E g ln bf z ke hs))) (va_Qi (fun (r : Int32) (_ : Unit) => r = mixF z x.toNatClampNeg w0.toNatClampNeg) (fun _ t => (vp_in x 10000 ∧ vp_in w0 3) ∧ MB E g ln bf z ke hs (t.heap)) (wF 94 g)) (vx_X (S := Unit) (fun _ => True) (fun Ex _ t => (Ex = "java/lang/IllegalArgumentException" ∧ ¬ (vp_in x 10000 ∧ vp_in w0 3)) ∧ MB E g ln bf z ke hs (t.heap)) (wF 94 g)) 2 12 (wF 94 g) := by
  refine vx_ofW (cc := cX5_mix) (maxL := 4) (ret := (some .int)) (by decide) rfl ?_
  intro p e s m args below meth c s₁ B hml hno hv
  obtain ⟨rfl, ⟨ol, zs, ⟨hol, hke, hzs, hln, hnb2, hnb⟩, hM, ⟨⟨pa, hPa⟩, ⟨el, hEl⟩, ⟨tli, tq, hTr⟩⟩, hN, hHi, hHs⟩, hK, hI, hxe⟩ := hv
  have hx := B.exec
  have hb := B.bytes
  have hr := B.returns
  have hts := atoms_spec (ws := wsX5_mix) B.pre
  have hown : s.vm.findClass RX5 = some m.cls := findClass_of_methodNamed B.named
  have hlocks := B.notSynchronized
  have hS : va_S (wF 94 g) s.heap s.heap [] := va_S.rf
  have hin5 : ∀ w ∈ wsX50, w ∈ wsX5_mix := by decide +kernel
  have hl := lv_entry ([.ref ((g 0)), .int x, .int w0]) (n := 4) (Nat.le_of_ble_eq_true rfl)
  rw [lg_entry_eq]
  generalize (lg_sl ([.ref ((g 0)), .int x, .int w0]) ++ List.replicate (4 - (lg_sl ([.ref ((g 0)), .int x, .int w0])).length) Slot.unset).toArray = ls at hl ⊢
  have hl : lv_has ls 4 [(0, .ref ((g 0))), (1, .int x), (2, .int w0)] := hl
  have hN : stP E (off g 8) z.1 z.2.1 z.2.2.1 z.2.2.2 s.heap := hN
  have hdg := hxe.2.2.2.2
  refine lv_iload_n hx hb dX5_mix_0 rfl (lv_at hl 1 rfl) ?_
  refine vx_callv (vx_runS (As := [.int x]) (rest := []) ⟨hx, hb, hml, hown, hts⟩ (c_X5_checkMix l hst E x) (va_cwS 1 hts gX5_mix_X5_checkMix rfl rfl rfl (by decide +kernel) ⟨Nat.le_of_ble_eq_true rfl, Nat.le_of_ble_eq_true rfl⟩) ⟨wSx.blind, fun U hU hW => wSx.go trivial hK wI0 hxe hS (fun q h => h.elim) hU hW⟩ rfl rfl hl.1 rfl (lv_room (Nat.le_of_ble_eq_true rfl)) dX5_mix_1 ⟨Nat.le_of_ble_eq_true rfl, Nat.le_of_ble_eq_true rfl⟩) hS (fun q _ h => h.elim) (fun q h => h.elim) (fun q _ h => h.elim) (fun E9 ce9 q9 uu t H_1 locs_1 ht hvm hpx hbx hz1 hk1 hS hc9 hv9 hf9 => ?_) (fun uu t H_1 locs_1 ht hvm hw hB hz1 hk1 hS => ?_)
  · have hM := hM.same hk1
    have hPa := hPa.same hk1
    have hEl := hEl.same hk1
    have hTr := hTr.same hk1
    have hN := hN.same hk1
    have hHi := hHi.same hk1
    have hHs := hHs.same hk1
    exact vx_out (fun x hx => (hno x hx).elim) hlocks hc9 hv9 hf9 (fun t2 ht2 hvm2 => ⟨(), trivial, ⟨⟨hbx.1, fun y => hbx.2 y.1⟩, (by rw [ht2]; exact ⟨ol, zs, ⟨hol, hke, hzs, hln, hnb2, hnb⟩, hM, ⟨⟨(pa.1, pa.2.1, pa.2.2), hPa⟩, ⟨(el.1, el.2), hEl⟩, ⟨tli, tq, hTr⟩⟩, hN, hHi, hHs⟩)⟩, hS.F ht2⟩) hS.2.2 (Nat.le_of_ble_eq_true rfl) (Nat.le_of_ble_eq_true rfl)
  have hc_k0 := hB
  have hM := hM.same hk1
  have hPa := hPa.same hk1
  have hEl := hEl.same hk1
  have hTr := hTr.same hk1
  have hN := hN.same hk1
  have hHi := hHi.same hk1
  have hHs := hHs.same hk1
  obtain ⟨k0, hn_k0, rfl⟩ := vp_in_of hc_k0 (show 10000 < 2 ^ 31 by decide)
  refine lv_iload_n hx hb dX5_mix_4 rfl (lv_at hl 2 rfl) ?_
  refine lv_iconst (v := 3) hx hb dX5_mix_5 (by decide) ?_
  refine vx_callv (vx_runS (As := [.int w0, .int 3]) (rest := []) ⟨hx, hb, hml, hown, hts⟩ (c_X5_checkWhat l hst E w0 3 (by decide)) (va_cwS 2 hts gX5_mix_X5_checkWhat rfl rfl rfl (by decide +kernel) ⟨Nat.le_of_ble_eq_true rfl, Nat.le_of_ble_eq_true rfl⟩) ⟨wSx.blind, fun U hU hW => wSx.go trivial hK wI0 hxe hS (fun q h => h.elim) hU hW⟩ rfl rfl hl.1 rfl (lv_room (Nat.le_of_ble_eq_true rfl)) dX5_mix_6 ⟨Nat.le_of_ble_eq_true rfl, Nat.le_of_ble_eq_true rfl⟩) hS (fun q _ h => h.elim) (fun q h => h.elim) (fun q _ h => h.elim) (fun E9 ce9 q9 uu t H_2 locs_2 ht hvm hpx hbx hz1 hk1 hS hc9 hv9 hf9 => ?_) (fun uu t H_2 locs_2 ht hvm hw hB hz1 hk1 hS => ?_)
  · have hM := hM.same hk1
    have hPa := hPa.same hk1
    have hEl := hEl.same hk1
    have hTr := hTr.same hk1
    have hN := hN.same hk1
    have hHi := hHi.same hk1
    have hHs := hHs.same hk1
    exact vx_out (fun x hx => (hno x hx).elim) hlocks hc9 hv9 hf9 (fun t2 ht2 hvm2 => ⟨(), trivial, ⟨⟨hbx.1, fun y => hbx.2 y.2⟩, (by rw [ht2]; exact ⟨ol, zs, ⟨hol, hke, hzs, hln, hnb2, hnb⟩, hM, ⟨⟨(pa.1, pa.2.1, pa.2.2), hPa⟩, ⟨(el.1, el.2), hEl⟩, ⟨tli, tq, hTr⟩⟩, hN, hHi, hHs⟩)⟩, hS.F ht2⟩) hS.2.2 (Nat.le_of_ble_eq_true rfl) (Nat.le_of_ble_eq_true rfl)
  have hc_j := hB
  have hM := hM.same hk1
  have hPa := hPa.same hk1
  have hEl := hEl.same hk1
  have hTr := hTr.same hk1
  have hN := hN.same hk1
  have hHi := hHi.same hk1
  have hHs := hHs.same hk1
  obtain ⟨j, hn_j, rfl⟩ := vp_in_of hc_j (show 3 < 2 ^ 31 by decide)
  refine lv_aload_n hx hb dX5_mix_9 rfl (lv_at hl 0 rfl) ?_
  refine w_get (C := RX5) (T := TX5) (N := 7) (ci := 5) (v := .ref ((g 8))) hx hb hts hin5 hown hK hM 0 (by decide) rfl rfl 0 (by decide) (hts (.fieldLink RX5 12 "MixedBlocks" "now" "LMixedBlocks$State;") (List.mem_of_getElem? (i := 1) rfl)) (fun _ h9 => h9) rfl dX5_mix_10 ?_
  refine lv_iload_n hx hb dX5_mix_13 rfl (lv_at hl 1 rfl) ?_
  refine va_calli (va_runV (As := [.int ((nI k0))]) (rest := []) ⟨hx, hb, hml, hown, hts⟩ (c_X4_mixOf l E (off g 8) z.1 z.2.1 z.2.2.1 z.2.2.2 k0 (by omega) hnb2 hnb) (cwV 1 hts gX5_mix_X4_mixOf rfl rfl rfl (by decide +kernel) ⟨Nat.le_of_ble_eq_true rfl, Nat.le_of_ble_eq_true rfl⟩) ⟨wSd.blind, (w_recv hK hN.1 0 (by decide) rfl (ci := 4) rfl), fun U hU hW => wSd.go hN hK (off_I hI (by decide)) hdg hS (fun q h => h.elim) hU hW⟩ rfl rfl hl.1 rfl (lv_room (Nat.le_of_ble_eq_true rfl)) dX5_mix_14 ⟨Nat.le_of_ble_eq_true rfl, Nat.le_of_ble_eq_true rfl⟩) hS (fun q _ h => h.elim) (fun q h => h.elim) (fun r_3 uu t H_3 locs_3 ht hvm hw hB hz1 hk1 hS => ?_)
  have hM := hM.same hk1
  have hPa := hPa.same hk1
  have hEl := hEl.same hk1
  have hTr := hTr.same hk1
  have hN := hN.same hk1
  have hHi := hHi.same hk1
  have hHs := hHs.same hk1
  obtain rfl : r_3 = (mixS z.1 z.2.1 k0) := hw
  refine lv_istore_n (lv' := [(3, .int ((mixS z.1 z.2.1 k0))), (0, .ref ((g 0))), (1, .int ((nI k0))), (2, .int ((nI j)))]) hx hb dX5_mix_17 rfl hl (by decide) rfl (fun ls hl => ?_)
  refine lv_iload_n hx hb dX5_mix_18 rfl (lv_at hl 3 rfl) ?_
  obtain rfl | rfl | rfl : j = 0 ∨ j = 1 ∨ j = 2 := by omega
  · refine lv_lookup (off := 25) (tgt := 44) hx hb dX5_mix_19 (by decide +kernel) (by decide +kernel) (by decide) ?_
    refine lv_iload_n hx hb dX5_mix_44 rfl (lv_at hl 0 rfl) ?_
    refine va_calli (va_runS (As := [.int ((mixS z.1 z.2.1 k0))]) (rest := []) ⟨hx, hb, hml, hown, hts⟩ (c_X5_blockCountOf l (mixS z.1 z.2.1 k0)) (va_cwS 1 hts gX5_mix_X5_blockCountOf rfl rfl rfl (by decide +kernel) ⟨Nat.le_of_ble_eq_true rfl, Nat.le_of_ble_eq_true rfl⟩) ⟨wU_blind, fun U hU hW => ⟨rfl, trivial⟩⟩ rfl rfl hl.1 rfl (lv_room (Nat.le_of_ble_eq_true rfl)) dX5_mix_45 ⟨Nat.le_of_ble_eq_true rfl, Nat.le_of_ble_eq_true rfl⟩) hS (fun q _ h => h.elim) (fun q h => h.elim) (fun r_4 uu t H_4 locs_4 ht hvm hw hB hz1 hk1 hS => ?_)
    have hM := hM.same hk1
    have hPa := hPa.same hk1
    have hEl := hEl.same hk1
    have hTr := hTr.same hk1
    have hN := hN.same hk1
    have hHi := hHi.same hk1
    have hHs := hHs.same hk1
    obtain rfl : r_4 = (bcI (mixS z.1 z.2.1 k0)) := hw
    refine vx_ret ?_
    refine W.widen (k := 2) (n := 12) (Nat.le_of_ble_eq_true rfl) (Nat.le_of_ble_eq_true rfl) ?_
    have hclk0 : (nI k0).toNatClampNeg = k0 := nI_clamp (by omega)
    exact W.iret (v := (bcI (mixS z.1 z.2.1 k0))) hx hb hr (fun t ht hW => ⟨⟨_, (), rfl, (by show _ = _; rw [hclk0]; rfl), (by show (vp_in (nI k0) 10000 ∧ vp_in (nI 0) 3) ∧ MB E g ln bf z ke hs t.heap; rw [ht]; exact ⟨⟨hc_k0, hc_j⟩, ⟨ol, zs, ⟨hol, hke, hzs, hln, hnb2, hnb⟩, hM, ⟨⟨(pa.1, pa.2.1, pa.2.2), hPa⟩, ⟨(el.1, el.2), hEl⟩, ⟨tli, tq, hTr⟩⟩, hN, hHi, hHs⟩⟩)⟩, hS.F ht⟩) hS.2.2 dX5_mix_48
  · refine lv_lookup (off := 30) (tgt := 49) hx hb dX5_mix_19 (by decide +kernel) (by decide +kernel) (by decide) ?_
    refine lv_iload_n hx hb dX5_mix_49 rfl (lv_at hl 0 rfl) ?_
    refine va_calli (va_runS (As := [.int ((mixS z.1 z.2.1 k0))]) (rest := []) ⟨hx, hb, hml, hown, hts⟩ (c_X5_blocksOf l (mixS z.1 z.2.1 k0)) (va_cwS 1 hts gX5_mix_X5_blocksOf rfl rfl rfl (by decide +kernel) ⟨Nat.le_of_ble_eq_true rfl, Nat.le_of_ble_eq_true rfl⟩) ⟨wU_blind, fun U hU hW => ⟨rfl, trivial⟩⟩ rfl rfl hl.1 rfl (lv_room (Nat.le_of_ble_eq_true rfl)) dX5_mix_50 ⟨Nat.le_of_ble_eq_true rfl, Nat.le_of_ble_eq_true rfl⟩) hS (fun q _ h => h.elim) (fun q h => h.elim) (fun r_5 uu t H_5 locs_5 ht hvm hw hB hz1 hk1 hS => ?_)
    have hM := hM.same hk1
    have hPa := hPa.same hk1
    have hEl := hEl.same hk1
    have hTr := hTr.same hk1
    have hN := hN.same hk1
    have hHi := hHi.same hk1
    have hHs := hHs.same hk1
    obtain rfl : r_5 = ((mixS z.1 z.2.1 k0) &&& 4095) := hw
    refine vx_ret ?_
    refine W.widen (k := 2) (n := 12) (Nat.le_of_ble_eq_true rfl) (Nat.le_of_ble_eq_true rfl) ?_
    have hclk0 : (nI k0).toNatClampNeg = k0 := nI_clamp (by omega)
    exact W.iret (v := ((mixS z.1 z.2.1 k0) &&& 4095)) hx hb hr (fun t ht hW => ⟨⟨_, (), rfl, (by show _ = _; rw [hclk0]; rfl), (by show (vp_in (nI k0) 10000 ∧ vp_in (nI 1) 3) ∧ MB E g ln bf z ke hs t.heap; rw [ht]; exact ⟨⟨hc_k0, hc_j⟩, ⟨ol, zs, ⟨hol, hke, hzs, hln, hnb2, hnb⟩, hM, ⟨⟨(pa.1, pa.2.1, pa.2.2), hPa⟩, ⟨(el.1, el.2), hEl⟩, ⟨tli, tq, hTr⟩⟩, hN, hHi, hHs⟩⟩)⟩, hS.F ht⟩) hS.2.2 dX5_mix_53
  · refine lv_lookup (off := 35) (tgt := 54) hx hb dX5_mix_19 (by decide +kernel) (by decide +kernel) (by decide) ?_
    refine lv_iload_n hx hb dX5_mix_54 rfl (lv_at hl 0 rfl) ?_
    refine va_calli (va_runS (As := [.int ((mixS z.1 z.2.1 k0))]) (rest := []) ⟨hx, hb, hml, hown, hts⟩ (c_X5_valueOf l (mixS z.1 z.2.1 k0)) (va_cwS 1 hts gX5_mix_X5_valueOf rfl rfl rfl (by decide +kernel) ⟨Nat.le_of_ble_eq_true rfl, Nat.le_of_ble_eq_true rfl⟩) ⟨wU_blind, fun U hU hW => ⟨rfl, trivial⟩⟩ rfl rfl hl.1 rfl (lv_room (Nat.le_of_ble_eq_true rfl)) dX5_mix_55 ⟨Nat.le_of_ble_eq_true rfl, Nat.le_of_ble_eq_true rfl⟩) hS (fun q _ h => h.elim) (fun q h => h.elim) (fun r_6 uu t H_6 locs_6 ht hvm hw hB hz1 hk1 hS => ?_)
    have hM := hM.same hk1
    have hPa := hPa.same hk1
    have hEl := hEl.same hk1
    have hTr := hTr.same hk1
    have hN := hN.same hk1
    have hHi := hHi.same hk1
    have hHs := hHs.same hk1
    obtain rfl : r_6 = ((mixS z.1 z.2.1 k0) >>> ((12 : Int32) &&& 31)) := hw
    refine vx_ret ?_
    refine W.widen (k := 2) (n := 12) (Nat.le_of_ble_eq_true rfl) (Nat.le_of_ble_eq_true rfl) ?_
    have hclk0 : (nI k0).toNatClampNeg = k0 := nI_clamp (by omega)
    exact W.iret (v := ((mixS z.1 z.2.1 k0) >>> ((12 : Int32) &&& 31))) hx hb hr (fun t ht hW => ⟨⟨_, (), rfl, (by show _ = _; rw [hclk0]; rfl), (by show (vp_in (nI k0) 10000 ∧ vp_in (nI 2) 3) ∧ MB E g ln bf z ke hs t.heap; rw [ht]; exact ⟨⟨hc_k0, hc_j⟩, ⟨ol, zs, ⟨hol, hke, hzs, hln, hnb2, hnb⟩, hM, ⟨⟨(pa.1, pa.2.1, pa.2.2), hPa⟩, ⟨(el.1, el.2), hEl⟩, ⟨tli, tq, hTr⟩⟩, hN, hHi, hHs⟩⟩)⟩, hS.F ht⟩) hS.2.2 dX5_mix_58
set_option maxHeartbeats 4000000 in
set_option maxRecDepth 100000 in
theorem c_X5_known (l : Launch) (hst : l.stackTraces = false) (E : wE) (g : Nat → Nat) (ln : Nat) (bf : Nat → Int32) (z : SS) (ke : Nat) (hs : Nat → SS) (x y : Int32) : vx_Met l yX5_known wsX5_known ({ frames := 7, cells := 2, slots := 12, locals := 112 }) (va_Pc [.ref ((g 0)), .int x, .int y] (wSx E 94 g (wF 94 g) (MB E g ln bf z ke hs))) (va_Qi (fun (r : Int32) (_ : Unit) => r = knownF (z.2.2.2 x.toNatClampNeg) y.toNatClampNeg) (fun _ t => (vp_in x 3 ∧ vp_in y z.1) ∧ MB E g ln bf z ke hs (t.heap)) (wF 94 g)) (vx_X (S := Unit) (fun _ => True) (fun Ex _ t => (Ex = "java/lang/IndexOutOfBoundsException" ∧ ¬ (vp_in x 3 ∧ vp_in y z.1)) ∧ MB E g ln bf z ke hs (t.heap)) (wF 94 g)) 2 12 (wF 94 g) := by
  refine vx_ofW (cc := cX5_known) (maxL := 4) (ret := (some .int)) (by decide) rfl ?_
  intro p e s m args below meth c s₁ B hml hno hv
  obtain ⟨rfl, ⟨ol, zs, ⟨hol, hke, hzs, hln, hnb2, hnb⟩, hM, ⟨⟨pa, hPa⟩, ⟨el, hEl⟩, ⟨tli, tq, hTr⟩⟩, hN, hHi, hHs⟩, hK, hI, hxe⟩ := hv
  have hx := B.exec
  have hb := B.bytes
  have hr := B.returns
  have hts := atoms_spec (ws := wsX5_known) B.pre
  have hown : s.vm.findClass RX5 = some m.cls := findClass_of_methodNamed B.named
  have hlocks := B.notSynchronized
  have hS : va_S (wF 94 g) s.heap s.heap [] := va_S.rf
  have hl := lv_entry ([.ref ((g 0)), .int x, .int y]) (n := 4) (Nat.le_of_ble_eq_true rfl)
  rw [lg_entry_eq]
  generalize (lg_sl ([.ref ((g 0)), .int x, .int y]) ++ List.replicate (4 - (lg_sl ([.ref ((g 0)), .int x, .int y])).length) Slot.unset).toArray = ls at hl ⊢
  have hl : lv_has ls 4 [(0, .ref ((g 0))), (1, .int x), (2, .int y)] := hl
  have hN : stP E (off g 8) z.1 z.2.1 z.2.2.1 z.2.2.2 s.heap := hN
  refine lv_aload_n hx hb dX5_known_0 rfl (lv_at hl 0 rfl) ?_
  refine lv_iload_n hx hb dX5_known_1 rfl (lv_at hl 1 rfl) ?_
  refine vx_callq (vx_runV (As := [.int x]) (rest := []) ⟨hx, hb, hml, hown, hts⟩ (c_X5_existing l hst E g ln bf z ke hs x) (cwV 1 hts gX5_known_X5_existing rfl rfl rfl (by decide +kernel) ⟨Nat.le_of_ble_eq_true rfl, Nat.le_of_ble_eq_true rfl⟩) ⟨wSx.blind, (w_recv hK hM 0 (by decide) rfl (ci := 5) rfl), fun U hU hW => wSx.go ⟨ol, zs, ⟨hol, hke, hzs, hln, hnb2, hnb⟩, hM, ⟨⟨(pa.1, pa.2.1, pa.2.2), hPa⟩, ⟨(el.1, el.2), hEl⟩, ⟨tli, tq, hTr⟩⟩, hN, hHi, hHs⟩ hK hI hxe hS (fun q h => h) hU hW⟩ rfl rfl hl.1 rfl (lv_room (Nat.le_of_ble_eq_true rfl)) dX5_known_2 ⟨Nat.le_of_ble_eq_true rfl, Nat.le_of_ble_eq_true rfl⟩) hS (fun q _ h => h) (fun q h => h) (fun q _ h => h) (fun E9 ce9 q9 uu t H_1 locs_1 ht hvm hpx hbx hz1 hk1 hS hc9 hv9 hf9 => ?_) (fun r_1 uu t H_1 locs_1 ht hvm hw hB hz1 hk1 hS => ?_)
  · exact vx_out (fun x hx => (hno x hx).elim) hlocks hc9 hv9 hf9 (fun t2 ht2 hvm2 => ⟨(), trivial, ⟨⟨hbx.1, fun y => hbx.2.1 y.1⟩, (by rw [ht2, ← ht]; exact hbx.2.2)⟩, hS.F ht2⟩) hS.2.2 (Nat.le_of_ble_eq_true rfl) (Nat.le_of_ble_eq_true rfl)
  rw [ht] at hB
  obtain ⟨hc_i, ⟨ol, zs, ⟨hol, hke, hzs, hln, hnb2, hnb⟩, hM, ⟨⟨pa, hPa⟩, ⟨el, hEl⟩, ⟨tli, tq, hTr⟩⟩, hN, hHi, hHs⟩⟩ := hB
  have hN : stP E (off g 8) z.1 z.2.1 z.2.2.1 z.2.2.2 _ := hN
  obtain rfl : r_1 = some (off g 8 (3 + 3 * x.toNatClampNeg)) := hw
  obtain ⟨i, hn_i, rfl⟩ := vp_in_of hc_i (show 3 < 2 ^ 31 by decide)
  rw [nI_clamp (show i < 2 ^ 31 by omega)]
  refine lv_astore_n (lv' := [(3, .ref ((off g 8 (3 + 3 * i)))), (0, .ref ((g 0))), (1, .int ((nI i))), (2, .int y)]) hx hb dX5_known_5 rfl hl (by decide) rfl (fun ls hl => ?_)
  refine lv_aload_n hx hb dX5_known_6 rfl (lv_at hl 1 rfl) ?_
  refine lv_iload_n hx hb dX5_known_7 rfl (lv_at hl 3 rfl) ?_
  refine vx_callv (vx_runV (As := [.int y]) (rest := []) ⟨hx, hb, hml, hown, hts⟩ (c_X5_checkBlock l hst E g ln bf z ke hs y) (cwV 1 hts gX5_known_X5_checkBlock rfl rfl rfl (by decide +kernel) ⟨Nat.le_of_ble_eq_true rfl, Nat.le_of_ble_eq_true rfl⟩) ⟨wSx.blind, (w_recv hK hM 0 (by decide) rfl (ci := 5) rfl), fun U hU hW => wSx.go ⟨ol, zs, ⟨hol, hke, hzs, hln, hnb2, hnb⟩, hM, ⟨⟨(pa.1, pa.2.1, pa.2.2), hPa⟩, ⟨(el.1, el.2), hEl⟩, ⟨tli, tq, hTr⟩⟩, hN, hHi, hHs⟩ hK hI hxe hS (fun q h => h) hU hW⟩ rfl rfl hl.1 rfl (lv_room (Nat.le_of_ble_eq_true rfl)) dX5_known_8 ⟨Nat.le_of_ble_eq_true rfl, Nat.le_of_ble_eq_true rfl⟩) hS (fun q _ h => h) (fun q h => h) (fun q _ h => h) (fun E9 ce9 q9 uu t H_2 locs_2 ht hvm hpx hbx hz1 hk1 hS hc9 hv9 hf9 => ?_) (fun uu t H_2 locs_2 ht hvm hw hB hz1 hk1 hS => ?_)
  · exact vx_out (fun x hx => (hno x hx).elim) hlocks hc9 hv9 hf9 (fun t2 ht2 hvm2 => ⟨(), trivial, ⟨⟨hbx.1, fun y => hbx.2.1 y.2⟩, (by rw [ht2, ← ht]; exact hbx.2.2)⟩, hS.F ht2⟩) hS.2.2 (Nat.le_of_ble_eq_true rfl) (Nat.le_of_ble_eq_true rfl)
  rw [ht] at hB
  obtain ⟨hc_b, ⟨ol, zs, ⟨hol, hke, hzs, hln, hnb2, hnb⟩, hM, ⟨⟨pa, hPa⟩, ⟨el, hEl⟩, ⟨tli, tq, hTr⟩⟩, hN, hHi, hHs⟩⟩ := hB
  have hN : stP E (off g 8) z.1 z.2.1 z.2.2.1 z.2.2.2 _ := hN
  obtain ⟨b, hn_b, rfl⟩ := vp_in_of hc_b (show z.1 < 2 ^ 31 by omega)
  refine lv_aload_n hx hb dX5_known_11 rfl (lv_at hl 0 rfl) ?_
  refine lv_iload_n hx hb dX5_known_12 rfl (lv_at hl 3 rfl) ?_
  have hRi := hN.2 i (by omega)
  obtain ⟨hlnI, lfI, hlfI, hPI⟩ := id hRi
  refine va_calli (va_runV (As := [.int ((nI b))]) (rest := []) ⟨hx, hb, hml, hown, hts⟩ (c_X3_valueKnown l E (rg (off g 8) i) (z.2.2.2 i).1 (z.2.2.2 i).2.1 (z.2.2.2 i).2.2.1 (z.2.2.2 i).2.2.2.1 (z.2.2.2 i).2.2.2.2.1 (z.2.2.2 i).2.2.2.2.2.1 (z.2.2.2 i).2.2.2.2.2.2 b (by omega)) (cwV 1 hts gX5_known_X3_valueKnown rfl rfl rfl (by decide +kernel) ⟨Nat.le_of_ble_eq_true rfl, Nat.le_of_ble_eq_true rfl⟩) ⟨wS.blind, (w_recv hK hPI 0 (by decide) rfl (ci := 3) rfl), fun U hU hW => wS.go hRi hK (rg_I (off_I hI (by decide)) (by omega)) hU hW⟩ rfl rfl hl.1 rfl (lv_room (Nat.le_of_ble_eq_true rfl)) dX5_known_13 ⟨Nat.le_of_ble_eq_true rfl, Nat.le_of_ble_eq_true rfl⟩) hS (fun q _ h => h.elim) (fun q h => h.elim) (fun r_3 uu t H_3 locs_3 ht hvm hw hB hz1 hk1 hS => ?_)
  have hM := hM.same hk1
  have hPa := hPa.same hk1
  have hEl := hEl.same hk1
  have hTr := hTr.same hk1
  have hN := hN.same hk1
  have hHi := hHi.same hk1
  have hHs := hHs.same hk1
  obtain rfl : r_3 = (knownF (z.2.2.2 i) b) := hw
  refine vx_ret ?_
  refine W.widen (k := 2) (n := 12) (Nat.le_of_ble_eq_true rfl) (Nat.le_of_ble_eq_true rfl) ?_
  have hclb : (nI b).toNatClampNeg = b := nI_clamp (by omega)
  exact W.iret (v := (knownF (z.2.2.2 i) b)) hx hb hr (fun t ht hW => ⟨⟨_, (), rfl, (by show _ = _; rw [hclb]), (by show (vp_in (nI i) 3 ∧ vp_in (nI b) z.1) ∧ MB E g ln bf z ke hs t.heap; rw [ht]; exact ⟨⟨hc_i, hc_b⟩, ⟨ol, zs, ⟨hol, hke, hzs, hln, hnb2, hnb⟩, hM, ⟨⟨(pa.1, pa.2.1, pa.2.2), hPa⟩, ⟨(el.1, el.2), hEl⟩, ⟨tli, tq, hTr⟩⟩, hN, hHi, hHs⟩⟩)⟩, hS.F ht⟩) hS.2.2 dX5_known_16
set_option maxHeartbeats 4000000 in
set_option maxRecDepth 100000 in
theorem c_X5_listen (l : Launch) (hst : l.stackTraces = false) (E : wE) (g : Nat → Nat) (ln : Nat) (bf : Nat → Int32) (z : SS) (ke : Nat) (hs : Nat → SS) (x : Int32) (bb : Bool) : vx_Met l yX5_listen wsX5_listen ({ frames := 7, cells := 1, slots := 6, locals := 151 }) (va_Pc [.ref ((g 0)), .int x, .int ((bI bb))] (wSx E 94 g (wF 94 g) (MB E g ln bf z ke hs))) (va_Qi (fun (r : Int32) (_ : Unit) => r = bI (z.2.2.2 x.toNatClampNeg).1) (fun _ t => vp_in x 3 ∧ MB E g ln bf (recvZ z x.toNatClampNeg (bb, (z.2.2.2 x.toNatClampNeg).2)) (kpK ke) (pushH ke hs z) (t.heap)) (wF 94 g)) (vx_X (S := Unit) (fun _ => True) (fun Ex _ t => (Ex = "java/lang/IndexOutOfBoundsException" ∧ ¬ vp_in x 3) ∧ MB E g ln bf z ke hs (t.heap)) (wF 94 g)) 1 6 (wF 94 g) := by
  refine vx_ofW (cc := cX5_listen) (maxL := 5) (ret := (some .int)) (by decide) rfl ?_
  intro p e s m args below meth c s₁ B hml hno hv
  obtain ⟨rfl, ⟨ol, zs, ⟨hol, hke, hzs, hln, hnb2, hnb⟩, hM, ⟨⟨pa, hPa⟩, ⟨el, hEl⟩, ⟨tli, tq, hTr⟩⟩, hN, hHi, hHs⟩, hK, hI, hxe⟩ := hv
  have hx := B.exec
  have hb := B.bytes
  have hr := B.returns
  have hts := atoms_spec (ws := wsX5_listen) B.pre
  have hown : s.vm.findClass RX5 = some m.cls := findClass_of_methodNamed B.named
  have hlocks := B.notSynchronized
  have hS : va_S (wF 94 g) s.heap s.heap [] := va_S.rf
  have hin3 : ∀ w ∈ wsX30, w ∈ wsX5_listen := by decide +kernel
  have hin5 : ∀ w ∈ wsX50, w ∈ wsX5_listen := by decide +kernel
  have hl := lv_entry ([.ref ((g 0)), .int x, .int ((bI bb))]) (n := 5) (Nat.le_of_ble_eq_true rfl)
  rw [lg_entry_eq]
  generalize (lg_sl ([.ref ((g 0)), .int x, .int ((bI bb))]) ++ List.replicate (5 - (lg_sl ([.ref ((g 0)), .int x, .int ((bI bb))])).length) Slot.unset).toArray = ls at hl ⊢
  have hl : lv_has ls 5 [(0, .ref ((g 0))), (1, .int x), (2, .int ((bI bb)))] := hl
  have hN : stP E (off g 8) z.1 z.2.1 z.2.2.1 z.2.2.2 s.heap := hN
  refine lv_aload_n hx hb dX5_listen_0 rfl (lv_at hl 0 rfl) ?_
  refine lv_iload_n hx hb dX5_listen_1 rfl (lv_at hl 1 rfl) ?_
  refine vx_callq (vx_runV (As := [.int x]) (rest := []) ⟨hx, hb, hml, hown, hts⟩ (c_X5_existing l hst E g ln bf z ke hs x) (cwV 1 hts gX5_listen_X5_existing rfl rfl rfl (by decide +kernel) ⟨Nat.le_of_ble_eq_true rfl, Nat.le_of_ble_eq_true rfl⟩) ⟨wSx.blind, (w_recv hK hM 0 (by decide) rfl (ci := 5) rfl), fun U hU hW => wSx.go ⟨ol, zs, ⟨hol, hke, hzs, hln, hnb2, hnb⟩, hM, ⟨⟨(pa.1, pa.2.1, pa.2.2), hPa⟩, ⟨(el.1, el.2), hEl⟩, ⟨tli, tq, hTr⟩⟩, hN, hHi, hHs⟩ hK hI hxe hS (fun q h => h) hU hW⟩ rfl rfl hl.1 rfl (lv_room (Nat.le_of_ble_eq_true rfl)) dX5_listen_2 ⟨Nat.le_of_ble_eq_true rfl, Nat.le_of_ble_eq_true rfl⟩) hS (fun q _ h => h) (fun q h => h) (fun q _ h => h) (fun E9 ce9 q9 uu t H_1 locs_1 ht hvm hpx hbx hz1 hk1 hS hc9 hv9 hf9 => ?_) (fun r_1 uu t H_1 locs_1 ht hvm hw hB hz1 hk1 hS => ?_)
  · exact vx_out (fun x hx => (hno x hx).elim) hlocks hc9 hv9 hf9 (fun t2 ht2 hvm2 => ⟨(), trivial, ⟨⟨hbx.1, hbx.2.1⟩, (by rw [ht2, ← ht]; exact hbx.2.2)⟩, hS.F ht2⟩) hS.2.2 (Nat.le_of_ble_eq_true rfl) (Nat.le_of_ble_eq_true rfl)
  rw [ht] at hB
  obtain ⟨hc_i, ⟨ol, zs, ⟨hol, hke, hzs, hln, hnb2, hnb⟩, hM, ⟨⟨pa, hPa⟩, ⟨el, hEl⟩, ⟨tli, tq, hTr⟩⟩, hN, hHi, hHs⟩⟩ := hB
  have hN : stP E (off g 8) z.1 z.2.1 z.2.2.1 z.2.2.2 _ := hN
  obtain rfl : r_1 = some (off g 8 (3 + 3 * x.toNatClampNeg)) := hw
  obtain ⟨i, hn_i, rfl⟩ := vp_in_of hc_i (show 3 < 2 ^ 31 by decide)
  rw [nI_clamp (show i < 2 ^ 31 by omega)]
  refine lv_astore_n (lv' := [(3, .ref ((off g 8 (3 + 3 * i)))), (0, .ref ((g 0))), (1, .int ((nI i))), (2, .int ((bI bb)))]) hx hb dX5_listen_5 rfl hl (by decide) rfl (fun ls hl => ?_)
  refine lv_aload_n hx hb dX5_listen_6 rfl (lv_at hl 1 rfl) ?_
  refine w_get (C := RX5) (T := TX5) (N := 7) (ci := 5) (v := .ref ((g 20))) hx hb hts hin5 hown hK hM 0 (by decide) rfl rfl 1 (by decide) (hts (.fieldLink RX5 19 "MixedBlocks" "history" "LMixedBlocks$History;") (List.mem_of_getElem? (i := 1) rfl)) (fun _ h9 => h9) rfl dX5_listen_7 ?_
  refine lv_aload_n hx hb dX5_listen_10 rfl (lv_at hl 1 rfl) ?_
  refine w_get (C := RX5) (T := TX5) (N := 7) (ci := 5) (v := .ref ((g 8))) hx hb hts hin5 hown hK hM 0 (by decide) rfl rfl 0 (by decide) (hts (.fieldLink RX5 12 "MixedBlocks" "now" "LMixedBlocks$State;") (List.mem_of_getElem? (i := 2) rfl)) (fun _ h9 => h9) rfl dX5_listen_11 ?_
  refine va_callv (va_runV (As := [.ref ((g 8))]) (rest := []) ⟨hx, hb, hml, hown, hts⟩ (c_X1_keep l E (off g 20) ol ke zs (off g 8) z.1 z.2.1 z.2.2.1 z.2.2.2 (off_I hI (by decide)) (off_I hI (by decide)) (off_X hI (by decide) (by decide) (by decide)) hol hke) (cwV 1 hts gX5_listen_X1_keep rfl rfl rfl (by decide +kernel) ⟨Nat.le_of_ble_eq_true rfl, Nat.le_of_ble_eq_true rfl⟩) ⟨wS.blind, (w_recv hK hHi 0 (by decide) rfl (ci := 1) rfl), fun U hU hW => wS.go ⟨hHi, hHs, hN⟩ hK wI0 hU hW⟩ rfl rfl hl.1 rfl (lv_room (Nat.le_of_ble_eq_true rfl)) dX5_listen_14 ⟨Nat.le_of_ble_eq_true rfl, Nat.le_of_ble_eq_true rfl⟩) hS (fun q _ h => (off_in2 (o := 20) (n := 74) (o2 := 8) (n2 := 12) (by decide) (by decide)) q h) (off_in2 (o := 20) (n := 74) (o2 := 8) (n2 := 12) (by decide) (by decide)) (fun uu t H_2 locs_2 ht hvm hw hB hz1 hk1 hS => ?_)
  rw [ht] at hB
  obtain ⟨hHi, hHs, hN⟩ := hB
  have hHs : hiS E (off g 20) (va_up zs ((ol + ke) % 6) z) H_2 := hHs
  obtain ⟨hol2, hke2, hzs2⟩ := pushH_ok (z := z) hol hke hzs ⟨hnb2, hnb⟩
  have hM := hM.other hk1 ((off_M hI (by decide) (by decide)).out2 (off_M hI (by decide) (by decide)))
  have hPa := hPa.other hk1 ((off_X hI (by decide) (by decide) (by decide)).out2 (off_X hI (by decide) (by decide) (by decide)))
  have hEl := hEl.other hk1 ((off_X hI (by decide) (by decide) (by decide)).out2 (off_X hI (by decide) (by decide) (by decide)))
  have hTr := hTr.other hk1 ((off_X hI (by decide) (by decide) (by decide)).out2 (off_X hI (by decide) (by decide) (by decide)))
  refine lv_aload_n hx hb dX5_listen_17 rfl (lv_at hl 0 rfl) ?_
  have hRi := hN.2 i (by omega)
  obtain ⟨hlnI, lfI, hlfI, hPI⟩ := id hRi
  refine w_getN (C := RX3) (T := TX3) (N := 8) (ci := 3) (v := .int ((bI (z.2.2.2 i).1))) hx hb hts hin3 hown hK hPI 0 (by decide) rfl rfl 0 (by decide) nf_X5_88 (fun _ h9 => h9) rfl dX5_listen_18 ?_
  refine lv_if_eq (tgt := 28) hx hb dX5_listen_21 (by decide) (fun c_3 => ?_) (fun c_3 => ?_)
  · refine lv_iconst (v := 0) hx hb dX5_listen_28 (by decide) ?_
    refine lv_istore (lv' := [(4, .int 0), (3, .ref ((off g 8 (3 + 3 * i)))), (0, .ref ((g 0))), (1, .int ((nI i))), (2, .int ((bI bb)))]) hx hb dX5_listen_29 hl (by decide) rfl (fun ls hl => ?_)
    refine lv_aload_n hx hb dX5_listen_31 rfl (lv_at hl 1 rfl) ?_
    refine lv_iload_n hx hb dX5_listen_32 rfl (lv_at hl 4 rfl) ?_
    refine w_putNO (C := RX3) (T := TX3) (N := 8) (ci := 3) (v := .int ((bI bb))) (ty := .boolean) hx hb hts hin3 tyX3 tyX3_ok nmX3 hown hK hPI (rg_I (off_I hI (by decide)) (by omega)) (fun k hk => off_inr (i := i) (by omega) _ (wF_in k hk)) hS 0 (by decide) rfl rfl 0 (by decide) nf_X5_88 (fun _ h9 => h9) rfl (by decide +kernel) (bI_n _) (bI_f _) (Nat.le_of_ble_eq_true rfl) dX5_listen_33 (rcF E (rg (off g 8) i) bb (z.2.2.2 i).2.1 (z.2.2.2 i).2.2.1 lfI (z.2.2.2 i).2.2.2.1.length (z.2.2.2 i).2.2.2.2.1 (z.2.2.2 i).2.2.2.2.2.1 (z.2.2.2 i).2.2.2.2.2.2) rfl rc_ne0 (fun H_4 locs_4 hPI hO hS => ?_)
    have hM := hM.keep (fun k hk => hO _ (fun e => absurd (hI (0 + k) (8 + (3 + 3 * i + 0)) (by omega) (by omega) (by rw [Nat.zero_add]; exact e)) (by omega)))
    have hPa := hPa.keep (fun k hk => hO _ (fun e => absurd (hI (2 + k) (8 + (3 + 3 * i + 0)) (by omega) (by omega) e) (by omega)))
    have hEl := hEl.keep (fun k hk => hO _ (fun e => absurd (hI (3 + k) (8 + (3 + 3 * i + 0)) (by omega) (by omega) e) (by omega)))
    have hTr := hTr.keep (fun k hk => hO _ (fun e => absurd (hI (5 + k) (8 + (3 + 3 * i + 0)) (by omega) (by omega) e) (by omega)))
    have hHi := hHi.keep (fun k hk => hO _ (fun e => absurd (hI (20 + k) (8 + (3 + 3 * i + 0)) (by omega) (by omega) e) (by omega)))
    have hHs := hHs.keep (fun k hk => hO _ (fun e => absurd (hI (20 + k) (8 + (3 + 3 * i + 0)) (by omega) (by omega) e) (by omega)))
    have hN : stP E (off g 8) z.1 z.2.1 z.2.2.1 (va_up z.2.2.2 i (bb, (z.2.2.2 i).2)) _ := ⟨hN.1.keep (fun k hk => hO _ (fun e => absurd (hI (8 + k) (8 + (3 + 3 * i + 0)) (by omega) (by omega) e) (by omega))), hN.2.set1 (off_I hI (by decide)) (by omega) (k := 0) (by decide) hO (r := (bb, (z.2.2.2 i).2)) ⟨hlnI, lfI, hlfI, hPI⟩⟩
    refine lv_iload hx hb dX5_listen_36 (lv_at hl 0 rfl) ?_
    refine vx_ret ?_
    refine W.widen (k := 1) (n := 6) (Nat.le_of_ble_eq_true rfl) (Nat.le_of_ble_eq_true rfl) ?_
    exact W.iret (v := 0) hx hb hr (fun t ht hW => ⟨⟨_, (), rfl, (by show _ = _; rw [bI_0 c_3]; rfl), (by show vp_in (nI i) 3 ∧ MB E g ln bf (recvZ z i (bb, (z.2.2.2 i).2)) (kpK ke) (pushH ke hs z) t.heap; rw [ht]; exact ⟨hc_i, ⟨(kpO ol ke), (va_up zs ((ol + ke) % 6) z), ⟨hol2, hke2, hzs2, hln, hnb2, hnb⟩, hM, ⟨⟨(pa.1, pa.2.1, pa.2.2), hPa⟩, ⟨(el.1, el.2), hEl⟩, ⟨tli, tq, hTr⟩⟩, hN, hHi, hHs⟩⟩)⟩, hS.F ht⟩) hS.2.2 dX5_listen_38
  · refine lv_iconst (v := 1) hx hb dX5_listen_24 (by decide) ?_
    refine lv_goto (tgt := 29) hx hb dX5_listen_25 (by decide) ?_
    refine lv_istore (lv' := [(4, .int 1), (3, .ref ((off g 8 (3 + 3 * i)))), (0, .ref ((g 0))), (1, .int ((nI i))), (2, .int ((bI bb)))]) hx hb dX5_listen_29 hl (by decide) rfl (fun ls hl => ?_)
    refine lv_aload_n hx hb dX5_listen_31 rfl (lv_at hl 1 rfl) ?_
    refine lv_iload_n hx hb dX5_listen_32 rfl (lv_at hl 4 rfl) ?_
    refine w_putNO (C := RX3) (T := TX3) (N := 8) (ci := 3) (v := .int ((bI bb))) (ty := .boolean) hx hb hts hin3 tyX3 tyX3_ok nmX3 hown hK hPI (rg_I (off_I hI (by decide)) (by omega)) (fun k hk => off_inr (i := i) (by omega) _ (wF_in k hk)) hS 0 (by decide) rfl rfl 0 (by decide) nf_X5_88 (fun _ h9 => h9) rfl (by decide +kernel) (bI_n _) (bI_f _) (Nat.le_of_ble_eq_true rfl) dX5_listen_33 (rcF E (rg (off g 8) i) bb (z.2.2.2 i).2.1 (z.2.2.2 i).2.2.1 lfI (z.2.2.2 i).2.2.2.1.length (z.2.2.2 i).2.2.2.2.1 (z.2.2.2 i).2.2.2.2.2.1 (z.2.2.2 i).2.2.2.2.2.2) rfl rc_ne0 (fun H_5 locs_5 hPI hO hS => ?_)
    have hM := hM.keep (fun k hk => hO _ (fun e => absurd (hI (0 + k) (8 + (3 + 3 * i + 0)) (by omega) (by omega) (by rw [Nat.zero_add]; exact e)) (by omega)))
    have hPa := hPa.keep (fun k hk => hO _ (fun e => absurd (hI (2 + k) (8 + (3 + 3 * i + 0)) (by omega) (by omega) e) (by omega)))
    have hEl := hEl.keep (fun k hk => hO _ (fun e => absurd (hI (3 + k) (8 + (3 + 3 * i + 0)) (by omega) (by omega) e) (by omega)))
    have hTr := hTr.keep (fun k hk => hO _ (fun e => absurd (hI (5 + k) (8 + (3 + 3 * i + 0)) (by omega) (by omega) e) (by omega)))
    have hHi := hHi.keep (fun k hk => hO _ (fun e => absurd (hI (20 + k) (8 + (3 + 3 * i + 0)) (by omega) (by omega) e) (by omega)))
    have hHs := hHs.keep (fun k hk => hO _ (fun e => absurd (hI (20 + k) (8 + (3 + 3 * i + 0)) (by omega) (by omega) e) (by omega)))
    have hN : stP E (off g 8) z.1 z.2.1 z.2.2.1 (va_up z.2.2.2 i (bb, (z.2.2.2 i).2)) _ := ⟨hN.1.keep (fun k hk => hO _ (fun e => absurd (hI (8 + k) (8 + (3 + 3 * i + 0)) (by omega) (by omega) e) (by omega))), hN.2.set1 (off_I hI (by decide)) (by omega) (k := 0) (by decide) hO (r := (bb, (z.2.2.2 i).2)) ⟨hlnI, lfI, hlfI, hPI⟩⟩
    refine lv_iload hx hb dX5_listen_36 (lv_at hl 0 rfl) ?_
    refine vx_ret ?_
    refine W.widen (k := 1) (n := 6) (Nat.le_of_ble_eq_true rfl) (Nat.le_of_ble_eq_true rfl) ?_
    exact W.iret (v := 1) hx hb hr (fun t ht hW => ⟨⟨_, (), rfl, (by show _ = _; rw [bI_1 c_3]; rfl), (by show vp_in (nI i) 3 ∧ MB E g ln bf (recvZ z i (bb, (z.2.2.2 i).2)) (kpK ke) (pushH ke hs z) t.heap; rw [ht]; exact ⟨hc_i, ⟨(kpO ol ke), (va_up zs ((ol + ke) % 6) z), ⟨hol2, hke2, hzs2, hln, hnb2, hnb⟩, hM, ⟨⟨(pa.1, pa.2.1, pa.2.2), hPa⟩, ⟨(el.1, el.2), hEl⟩, ⟨tli, tq, hTr⟩⟩, hN, hHi, hHs⟩⟩)⟩, hS.F ht⟩) hS.2.2 dX5_listen_38
set_option maxHeartbeats 4000000 in
set_option maxRecDepth 100000 in
theorem c_X5_eliminate (l : Launch) (hst : l.stackTraces = false) (E : wE) (g : Nat → Nat) (ln : Nat) (bf : Nat → Int32) (z : SS) (ke : Nat) (hs : Nat → SS) (x : Int32) : vx_Met l yX5_eliminate wsX5_eliminate ({ frames := 7, cells := 1, slots := 6, locals := 151 }) (va_Pc [.ref ((g 0)), .int x] (wSx E 94 g (wF 94 g) (MB E g ln bf z ke hs))) (va_Qi (fun (r : Int32) (_ : Unit) => r = (findS (z.2.2.2 x.toNatClampNeg).2).2.2.2.2) (fun _ t => vp_in x 3 ∧ MB E g ln bf (recvZ z x.toNatClampNeg (elimR (z.2.2.2 x.toNatClampNeg))) (kpK ke) (pushH ke hs z) (t.heap)) (wF 94 g)) (vx_X (S := Unit) (fun _ => True) (fun Ex _ t => (Ex = "java/lang/IndexOutOfBoundsException" ∧ ¬ vp_in x 3) ∧ MB E g ln bf z ke hs (t.heap)) (wF 94 g)) 1 6 (wF 94 g) := by
  refine vx_ofW (cc := cX5_eliminate) (maxL := 3) (ret := (some .int)) (by decide) rfl ?_
  intro p e s m args below meth c s₁ B hml hno hv
  obtain ⟨rfl, ⟨ol, zs, ⟨hol, hke, hzs, hln, hnb2, hnb⟩, hM, ⟨⟨pa, hPa⟩, ⟨el, hEl⟩, ⟨tli, tq, hTr⟩⟩, hN, hHi, hHs⟩, hK, hI, hxe⟩ := hv
  have hx := B.exec
  have hb := B.bytes
  have hr := B.returns
  have hts := atoms_spec (ws := wsX5_eliminate) B.pre
  have hown : s.vm.findClass RX5 = some m.cls := findClass_of_methodNamed B.named
  have hlocks := B.notSynchronized
  have hS : va_S (wF 94 g) s.heap s.heap [] := va_S.rf
  have hin5 : ∀ w ∈ wsX50, w ∈ wsX5_eliminate := by decide +kernel
  have hl := lv_entry ([.ref ((g 0)), .int x]) (n := 3) (Nat.le_of_ble_eq_true rfl)
  rw [lg_entry_eq]
  generalize (lg_sl ([.ref ((g 0)), .int x]) ++ List.replicate (3 - (lg_sl ([.ref ((g 0)), .int x])).length) Slot.unset).toArray = ls at hl ⊢
  have hl : lv_has ls 3 [(0, .ref ((g 0))), (1, .int x)] := hl
  have hN : stP E (off g 8) z.1 z.2.1 z.2.2.1 z.2.2.2 s.heap := hN
  refine lv_aload_n hx hb dX5_eliminate_0 rfl (lv_at hl 0 rfl) ?_
  refine lv_iload_n hx hb dX5_eliminate_1 rfl (lv_at hl 1 rfl) ?_
  refine vx_callq (vx_runV (As := [.int x]) (rest := []) ⟨hx, hb, hml, hown, hts⟩ (c_X5_existing l hst E g ln bf z ke hs x) (cwV 1 hts gX5_eliminate_X5_existing rfl rfl rfl (by decide +kernel) ⟨Nat.le_of_ble_eq_true rfl, Nat.le_of_ble_eq_true rfl⟩) ⟨wSx.blind, (w_recv hK hM 0 (by decide) rfl (ci := 5) rfl), fun U hU hW => wSx.go ⟨ol, zs, ⟨hol, hke, hzs, hln, hnb2, hnb⟩, hM, ⟨⟨(pa.1, pa.2.1, pa.2.2), hPa⟩, ⟨(el.1, el.2), hEl⟩, ⟨tli, tq, hTr⟩⟩, hN, hHi, hHs⟩ hK hI hxe hS (fun q h => h) hU hW⟩ rfl rfl hl.1 rfl (lv_room (Nat.le_of_ble_eq_true rfl)) dX5_eliminate_2 ⟨Nat.le_of_ble_eq_true rfl, Nat.le_of_ble_eq_true rfl⟩) hS (fun q _ h => h) (fun q h => h) (fun q _ h => h) (fun E9 ce9 q9 uu t H_1 locs_1 ht hvm hpx hbx hz1 hk1 hS hc9 hv9 hf9 => ?_) (fun r_1 uu t H_1 locs_1 ht hvm hw hB hz1 hk1 hS => ?_)
  · exact vx_out (fun x hx => (hno x hx).elim) hlocks hc9 hv9 hf9 (fun t2 ht2 hvm2 => ⟨(), trivial, ⟨⟨hbx.1, hbx.2.1⟩, (by rw [ht2, ← ht]; exact hbx.2.2)⟩, hS.F ht2⟩) hS.2.2 (Nat.le_of_ble_eq_true rfl) (Nat.le_of_ble_eq_true rfl)
  rw [ht] at hB
  obtain ⟨hc_i, ⟨ol, zs, ⟨hol, hke, hzs, hln, hnb2, hnb⟩, hM, ⟨⟨pa, hPa⟩, ⟨el, hEl⟩, ⟨tli, tq, hTr⟩⟩, hN, hHi, hHs⟩⟩ := hB
  have hN : stP E (off g 8) z.1 z.2.1 z.2.2.1 z.2.2.2 _ := hN
  obtain rfl : r_1 = some (off g 8 (3 + 3 * x.toNatClampNeg)) := hw
  obtain ⟨i, hn_i, rfl⟩ := vp_in_of hc_i (show 3 < 2 ^ 31 by decide)
  rw [nI_clamp (show i < 2 ^ 31 by omega)]
  refine lv_astore_n (lv' := [(2, .ref ((off g 8 (3 + 3 * i)))), (0, .ref ((g 0))), (1, .int ((nI i)))]) hx hb dX5_eliminate_5 rfl hl (by decide) rfl (fun ls hl => ?_)
  refine lv_aload_n hx hb dX5_eliminate_6 rfl (lv_at hl 1 rfl) ?_
  refine w_get (C := RX5) (T := TX5) (N := 7) (ci := 5) (v := .ref ((g 20))) hx hb hts hin5 hown hK hM 0 (by decide) rfl rfl 1 (by decide) (hts (.fieldLink RX5 19 "MixedBlocks" "history" "LMixedBlocks$History;") (List.mem_of_getElem? (i := 1) rfl)) (fun _ h9 => h9) rfl dX5_eliminate_7 ?_
  refine lv_aload_n hx hb dX5_eliminate_10 rfl (lv_at hl 1 rfl) ?_
  refine w_get (C := RX5) (T := TX5) (N := 7) (ci := 5) (v := .ref ((g 8))) hx hb hts hin5 hown hK hM 0 (by decide) rfl rfl 0 (by decide) (hts (.fieldLink RX5 12 "MixedBlocks" "now" "LMixedBlocks$State;") (List.mem_of_getElem? (i := 2) rfl)) (fun _ h9 => h9) rfl dX5_eliminate_11 ?_
  refine va_callv (va_runV (As := [.ref ((g 8))]) (rest := []) ⟨hx, hb, hml, hown, hts⟩ (c_X1_keep l E (off g 20) ol ke zs (off g 8) z.1 z.2.1 z.2.2.1 z.2.2.2 (off_I hI (by decide)) (off_I hI (by decide)) (off_X hI (by decide) (by decide) (by decide)) hol hke) (cwV 1 hts gX5_eliminate_X1_keep rfl rfl rfl (by decide +kernel) ⟨Nat.le_of_ble_eq_true rfl, Nat.le_of_ble_eq_true rfl⟩) ⟨wS.blind, (w_recv hK hHi 0 (by decide) rfl (ci := 1) rfl), fun U hU hW => wS.go ⟨hHi, hHs, hN⟩ hK wI0 hU hW⟩ rfl rfl hl.1 rfl (lv_room (Nat.le_of_ble_eq_true rfl)) dX5_eliminate_14 ⟨Nat.le_of_ble_eq_true rfl, Nat.le_of_ble_eq_true rfl⟩) hS (fun q _ h => (off_in2 (o := 20) (n := 74) (o2 := 8) (n2 := 12) (by decide) (by decide)) q h) (off_in2 (o := 20) (n := 74) (o2 := 8) (n2 := 12) (by decide) (by decide)) (fun uu t H_2 locs_2 ht hvm hw hB hz1 hk1 hS => ?_)
  rw [ht] at hB
  obtain ⟨hHi, hHs, hN⟩ := hB
  have hHs : hiS E (off g 20) (va_up zs ((ol + ke) % 6) z) H_2 := hHs
  obtain ⟨hol2, hke2, hzs2⟩ := pushH_ok (z := z) hol hke hzs ⟨hnb2, hnb⟩
  have hM := hM.other hk1 ((off_M hI (by decide) (by decide)).out2 (off_M hI (by decide) (by decide)))
  have hPa := hPa.other hk1 ((off_X hI (by decide) (by decide) (by decide)).out2 (off_X hI (by decide) (by decide) (by decide)))
  have hEl := hEl.other hk1 ((off_X hI (by decide) (by decide) (by decide)).out2 (off_X hI (by decide) (by decide) (by decide)))
  have hTr := hTr.other hk1 ((off_X hI (by decide) (by decide) (by decide)).out2 (off_X hI (by decide) (by decide) (by decide)))
  refine lv_aload_n hx hb dX5_eliminate_17 rfl (lv_at hl 0 rfl) ?_
  refine lv_aload_n hx hb dX5_eliminate_18 rfl (lv_at hl 1 rfl) ?_
  refine w_get (C := RX5) (T := TX5) (N := 7) (ci := 5) (v := .ref ((g 3))) hx hb hts hin5 hown hK hM 0 (by decide) rfl rfl 6 (by decide) (hts (.fieldLink RX5 48 "MixedBlocks" "elimination" "LMixedBlocks$Elimination;") (List.mem_of_getElem? (i := 3) rfl)) (fun _ h9 => h9) rfl dX5_eliminate_19 ?_
  have hRi := hN.2 i (by omega)
  obtain ⟨hlnI, lfI, hlfI, hPI⟩ := id hRi
  have hXe : wX 3 (rg (off g 8) i) 2 (off g 3) := ((off_X (o := 3) (n := 2) (o2 := 8) (n2 := 12) hI (by decide) (by decide) (by decide)).rg (by omega)).symm
  refine va_calli (va_runV (As := [.ref ((g 3))]) (rest := []) ⟨hx, hb, hml, hown, hts⟩ (c_X3_findTogether l E (rg (off g 8) i) (z.2.2.2 i).1 (z.2.2.2 i).2.1 (z.2.2.2 i).2.2.1 (z.2.2.2 i).2.2.2.1 (z.2.2.2 i).2.2.2.2.1 (z.2.2.2 i).2.2.2.2.2.1 (z.2.2.2 i).2.2.2.2.2.2 (off g 3) el.1 el.2 (rg_I (off_I hI (by decide)) (by omega)) (off_I hI (by decide)) hXe) (cwV 1 hts gX5_eliminate_X3_findTogether rfl rfl rfl (by decide +kernel) ⟨Nat.le_of_ble_eq_true rfl, Nat.le_of_ble_eq_true rfl⟩) ⟨wS.blind, (w_recv hK hPI 0 (by decide) rfl (ci := 3) rfl), fun U hU hW => wS.go ⟨hRi, hEl⟩ hK wI0 hU hW⟩ rfl rfl hl.1 rfl (lv_room (Nat.le_of_ble_eq_true rfl)) dX5_eliminate_22 ⟨Nat.le_of_ble_eq_true rfl, Nat.le_of_ble_eq_true rfl⟩) hS (fun q _ h => (off_inrE (i := i) (by omega)) q h) (off_inrE (i := i) (by omega)) (fun r_3 uu t H_3 locs_3 ht hvm hw hB hz1 hk1 hS => ?_)
  rw [ht] at hB
  have hk2 := fun (q : Nat) (h1 : q < _) (h2 : ¬ (wF 3 (rg (off g 8) i) q ∨ wF 2 (off g 3) q)) => hk1 q h1 h2
  have hN : stP E (off g 8) z.1 z.2.1 z.2.2.1 (va_up z.2.2.2 i (elimR (z.2.2.2 i))) H_3 := stP.setE hI hN (by omega) hk1 (r := elimR (z.2.2.2 i)) hB.1
  have hEl : wP E 2 (off g 3) (elF E (off g 3) (lookS (z.2.2.2 i).2.2.2.1).1 (lookS (z.2.2.2 i).2.2.2.1).2) H_3 := hB.2
  have hM := hM.other hk1 (((off_M (n2 := 12) hI (by decide) (by decide)).rg (by omega)).out2 (off_M hI (by decide) (by decide)))
  have hPa := hPa.other hk1 (((off_X (n2 := 12) hI (by decide) (by decide) (by decide)).rg (by omega)).out2 (off_X hI (by decide) (by decide) (by decide)))
  have hTr := hTr.other hk1 (((off_X (n2 := 12) hI (by decide) (by decide) (by decide)).rg (by omega)).out2 (off_X hI (by decide) (by decide) (by decide)))
  have hHi := hHi.other hk1 (((off_X (n2 := 12) hI (by decide) (by decide) (by decide)).rg (by omega)).out2 (off_X hI (by decide) (by decide) (by decide)))
  have hHs := hHs.other hk1 (((off_X (n2 := 12) hI (by decide) (by decide) (by decide)).rg (by omega)).out2 (off_X hI (by decide) (by decide) (by decide)))
  obtain rfl : r_3 = (findS (z.2.2.2 i).2).2.2.2.2 := hw
  refine vx_ret ?_
  refine W.widen (k := 1) (n := 6) (Nat.le_of_ble_eq_true rfl) (Nat.le_of_ble_eq_true rfl) ?_
  exact W.iret (v := ((findS (z.2.2.2 i).2).2.2.2.2)) hx hb hr (fun t ht hW => ⟨⟨_, (), rfl, rfl, (by show vp_in (nI i) 3 ∧ MB E g ln bf (recvZ z i (elimR (z.2.2.2 i))) (kpK ke) (pushH ke hs z) t.heap; rw [ht]; exact ⟨hc_i, ⟨(kpO ol ke), (va_up zs ((ol + ke) % 6) z), ⟨hol2, hke2, hzs2, hln, hnb2, hnb⟩, hM, ⟨⟨(pa.1, pa.2.1, pa.2.2), hPa⟩, ⟨((lookS (z.2.2.2 i).2.2.2.1).1, (lookS (z.2.2.2 i).2.2.2.1).2), hEl⟩, ⟨tli, tq, hTr⟩⟩, hN, hHi, hHs⟩⟩)⟩, hS.F ht⟩) hS.2.2 dX5_eliminate_25
