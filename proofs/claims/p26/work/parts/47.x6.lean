set_option maxHeartbeats 4000000 in
set_option maxRecDepth 100000 in
theorem c_X5_foundIfGot (l : Launch) (E : wE) (g : Nat → Nat) (ln : Nat) (bf : Nat → Int32) (z : SS) (ke : Nat) (hs : Nat → SS) (i : Nat) (hi3 : i < 3) (k0 : Nat) (hk0 : k0 ≤ 9999) : Met l yX5_foundIfGot wsX5_foundIfGot ({ frames := 5, cells := 0, slots := 0, locals := 126 }) (va_Pc [.ref ((g 0)), .ref ((off g 8 (3 + 3 * i))), .int (nI k0)] (wSd E 94 g (wF 94 g) (MB E g ln bf z ke hs))) (va_Qi (fun (r : Int32) (_ : Unit) => r = (getS (mixS z.1 z.2.1 k0) (z.2.2.2 i).2).1) (fun _ t => MB E g ln bf z ke hs (t.heap)) (wF 94 g)) 0 0 (wF 94 g) := by
  refine Met.ofW (cc := cX5_foundIfGot) (maxL := 3) (ret := (some .int)) (by decide) rfl ?_
  intro p e s m args below meth c s₁ B hml hv
  obtain ⟨rfl, ⟨ol, zs, ⟨hol, hke, hzs, hln, hnb2, hnb⟩, hM, ⟨⟨pa, hPa⟩, ⟨el, hEl⟩, ⟨tli, tq, hTr⟩⟩, hN, hHi, hHs⟩, hK, hI, hdg⟩ := hv
  have hx := B.exec
  have hb := B.bytes
  have hr := B.returns
  have hts := atoms_spec (ws := wsX5_foundIfGot) B.pre
  have hown : s.vm.findClass RX5 = some m.cls := findClass_of_methodNamed B.named
  have hlocks := B.notSynchronized
  have hS : va_S (wF 94 g) s.heap s.heap [] := va_S.rf
  have hin5 : ∀ w ∈ wsX50, w ∈ wsX5_foundIfGot := by decide +kernel
  have hA : ∀ k, k < 94 → (wF 94 g) (g k) := wF_in
  have hl := lv_entry ([.ref ((g 0)), .ref ((off g 8 (3 + 3 * i))), .int (nI k0)]) (n := 3) (Nat.le_of_ble_eq_true rfl)
  rw [lg_entry_eq]
  generalize (lg_sl ([.ref ((g 0)), .ref ((off g 8 (3 + 3 * i))), .int (nI k0)]) ++ List.replicate (3 - (lg_sl ([.ref ((g 0)), .ref ((off g 8 (3 + 3 * i))), .int (nI k0)])).length) Slot.unset).toArray = ls at hl ⊢
  have hl : lv_has ls 3 [(0, .ref ((g 0))), (1, .ref ((off g 8 (3 + 3 * i)))), (2, .int (nI k0))] := hl
  have hN : stP E (off g 8) z.1 z.2.1 z.2.2.1 z.2.2.2 s.heap := hN
  refine lv_aload_n hx hb dX5_foundIfGot_0 rfl (lv_at hl 0 rfl) ?_
  refine w_get (C := RX5) (T := TX5) (N := 7) (ci := 5) (v := .ref ((g 5))) hx hb hts hin5 hown hK hM 0 (by decide) rfl rfl 5 (by decide) (hts (.fieldLink RX5 41 "MixedBlocks" "trial" "LMixedBlocks$Receiver;") (List.mem_of_getElem? (i := 1) rfl)) (fun _ h9 => h9) rfl dX5_foundIfGot_1 ?_
  refine lv_aload_n hx hb dX5_foundIfGot_4 rfl (lv_at hl 1 rfl) ?_
  have hRi := hN.2 i (by omega)
  obtain ⟨hlnI, lfI, hlfI, hPI⟩ := id hRi
  obtain ⟨_, _, _, hTP⟩ := id hTr
  have hXt : wX 3 (off g 5) 3 (rg (off g 8) i) := (off_X (o := 5) (n := 3) (o2 := 8) (n2 := 12) hI (by decide) (by decide) (by decide)).rg (by omega)
  refine va_callv (va_runV (As := [.ref ((off g 8 (3 + 3 * i)))]) (rest := []) ⟨hx, hb, hml, hown, hts⟩ (c_X3_become l E (off g 5) tli tq.1 tq.2.1 tq.2.2.1 tq.2.2.2.1 tq.2.2.2.2.1 tq.2.2.2.2.2 (rg (off g 8) i) (z.2.2.2 i).1 (z.2.2.2 i).2.1 (z.2.2.2 i).2.2.1 (z.2.2.2 i).2.2.2.1 (z.2.2.2 i).2.2.2.2.1 (z.2.2.2 i).2.2.2.2.2.1 (z.2.2.2 i).2.2.2.2.2.2 (off_I hI (by decide)) (rg_I (off_I hI (by decide)) (by omega)) hXt) (cwV 1 hts gX5_foundIfGot_X3_become rfl rfl rfl (by decide +kernel) ⟨Nat.le_of_ble_eq_true rfl, Nat.le_of_ble_eq_true rfl⟩) ⟨wS.blind, (w_recv hK hTP 0 (by decide) rfl (ci := 3) rfl), fun U hU hW => wS.go ⟨hTr, hRi⟩ hK wI0 hU hW⟩ rfl rfl hl.1 rfl (lv_room (Nat.le_of_ble_eq_true rfl)) dX5_foundIfGot_5 ⟨Nat.zero_le _, Nat.zero_le _⟩) hS (fun q _ h => (off_inTR (i := i) (by omega)) q h) (off_inTR (i := i) (by omega)) (fun uu t H_1 locs_1 ht hvm hw hB hz1 hk1 hS => ?_)
  rw [ht] at hB
  have hTr : rcT E (off g 5) (z.2.2.2 i).1 (z.2.2.2 i).2 H_1 := hB.1
  have hN := stP.setT hI hN (by omega) hk1 hB.2
  have hM := hM.other hk1 ((off_M hI (by decide) (by decide)).out2 ((off_M (n2 := 12) hI (by decide) (by decide)).rg (by omega)))
  have hPa := hPa.other hk1 ((off_X hI (by decide) (by decide) (by decide)).out2 ((off_X (n2 := 12) hI (by decide) (by decide) (by decide)).rg (by omega)))
  have hEl := hEl.other hk1 ((off_X hI (by decide) (by decide) (by decide)).out2 ((off_X (n2 := 12) hI (by decide) (by decide) (by decide)).rg (by omega)))
  have hHi := hHi.other hk1 ((off_X hI (by decide) (by decide) (by decide)).out2 ((off_X (n2 := 12) hI (by decide) (by decide) (by decide)).rg (by omega)))
  have hHs := hHs.other hk1 ((off_X hI (by decide) (by decide) (by decide)).out2 ((off_X (n2 := 12) hI (by decide) (by decide) (by decide)).rg (by omega)))
  refine lv_aload_n hx hb dX5_foundIfGot_8 rfl (lv_at hl 0 rfl) ?_
  refine w_get (C := RX5) (T := TX5) (N := 7) (ci := 5) (v := .ref ((g 5))) hx hb hts hin5 hown hK hM 0 (by decide) rfl rfl 5 (by decide) (hts (.fieldLink RX5 41 "MixedBlocks" "trial" "LMixedBlocks$Receiver;") (List.mem_of_getElem? (i := 1) rfl)) (fun _ h9 => h9) rfl dX5_foundIfGot_9 ?_
  refine lv_aload_n hx hb dX5_foundIfGot_12 rfl (lv_at hl 0 rfl) ?_
  refine w_get (C := RX5) (T := TX5) (N := 7) (ci := 5) (v := .ref ((g 8))) hx hb hts hin5 hown hK hM 0 (by decide) rfl rfl 0 (by decide) (hts (.fieldLink RX5 12 "MixedBlocks" "now" "LMixedBlocks$State;") (List.mem_of_getElem? (i := 2) rfl)) (fun _ h9 => h9) rfl dX5_foundIfGot_13 ?_
  refine lv_iload_n hx hb dX5_foundIfGot_16 rfl (lv_at hl 2 rfl) ?_
  refine va_calli (va_runV (As := [.int (nI k0)]) (rest := [.ref ((g 5))]) ⟨hx, hb, hml, hown, hts⟩ (c_X4_mixOf l E (off g 8) z.1 z.2.1 z.2.2.1 z.2.2.2 k0 (by omega) hnb2 hnb) (cwV 1 hts gX5_foundIfGot_X4_mixOf rfl rfl rfl (by decide +kernel) ⟨Nat.le_of_ble_eq_true rfl, Nat.le_of_ble_eq_true rfl⟩) ⟨wSd.blind, (w_recv hK hN.1 0 (by decide) rfl (ci := 4) rfl), fun U hU hW => wSd.go hN hK (off_I hI (by decide)) hdg hS (fun q h => h.elim) hU hW⟩ rfl rfl hl.1 rfl (lv_room (Nat.le_of_ble_eq_true rfl)) dX5_foundIfGot_17 ⟨Nat.zero_le _, Nat.zero_le _⟩) hS (fun q _ h => h.elim) (fun q h => h.elim) (fun r_2 uu t H_2 locs_2 ht hvm hw hB hz1 hk1 hS => ?_)
  have hM := hM.same hk1
  have hPa := hPa.same hk1
  have hEl := hEl.same hk1
  have hTr := hTr.same hk1
  have hN := hN.same hk1
  have hHi := hHi.same hk1
  have hHs := hHs.same hk1
  obtain rfl : r_2 = (mixS z.1 z.2.1 k0) := hw
  obtain ⟨_, _, _, hTP⟩ := id hTr
  refine va_calli (va_runV (As := [.int ((mixS z.1 z.2.1 k0))]) (rest := []) ⟨hx, hb, hml, hown, hts⟩ (c_X3_get l E (off g 5) (z.2.2.2 i).1 ((z.2.2.2 i).2).1 ((z.2.2.2 i).2).2.1 ((z.2.2.2 i).2).2.2.1 ((z.2.2.2 i).2).2.2.2.1 ((z.2.2.2 i).2).2.2.2.2.1 ((z.2.2.2 i).2).2.2.2.2.2 (mixS z.1 z.2.1 k0)) (cwV 1 hts gX5_foundIfGot_X3_get rfl rfl rfl (by decide +kernel) ⟨Nat.le_of_ble_eq_true rfl, Nat.le_of_ble_eq_true rfl⟩) ⟨wS.blind, (w_recv hK hTP 0 (by decide) rfl (ci := 3) rfl), fun U hU hW => wS.go hTr hK (off_I hI (by decide)) hU hW⟩ rfl rfl hl.1 rfl (lv_room (Nat.le_of_ble_eq_true rfl)) dX5_foundIfGot_20 ⟨Nat.zero_le _, Nat.zero_le _⟩) hS (fun q _ h => (off_in (o := 5) (n := 3) (by decide)) q h) (off_in (o := 5) (n := 3) (by decide)) (fun r_3 uu t H_3 locs_3 ht hvm hw hB hz1 hk1 hS => ?_)
  rw [ht] at hB
  have hTr : rcT E (off g 5) (z.2.2.2 i).1 (getS (mixS z.1 z.2.1 k0) ((z.2.2.2 i).2)).2 H_3 := hB
  have hM := hM.other hk1 (off_M hI (by decide) (by decide)).out
  have hPa := hPa.other hk1 (off_X hI (by decide) (by decide) (by decide)).out
  have hEl := hEl.other hk1 (off_X hI (by decide) (by decide) (by decide)).out
  have hN := hN.other hk1 (off_X hI (by decide) (by decide) (by decide)).out
  have hHi := hHi.other hk1 (off_X hI (by decide) (by decide) (by decide)).out
  have hHs := hHs.other hk1 (off_X hI (by decide) (by decide) (by decide)).out
  obtain rfl : r_3 = (getS (mixS z.1 z.2.1 k0) ((z.2.2.2 i).2)).1 := hw
  exact W.iret (v := ((getS (mixS z.1 z.2.1 k0) ((z.2.2.2 i).2)).1)) hx hb hr (fun t ht hW => ⟨⟨_, (), rfl, rfl, (by show MB E g ln bf z ke hs t.heap; rw [ht]; exact ⟨ol, zs, ⟨hol, hke, hzs, hln, hnb2, hnb⟩, hM, ⟨⟨(pa.1, pa.2.1, pa.2.2), hPa⟩, ⟨(el.1, el.2), hEl⟩, ⟨(z.2.2.2 i).1, (getS (mixS z.1 z.2.1 k0) ((z.2.2.2 i).2)).2, hTr⟩⟩, hN, hHi, hHs⟩)⟩, hS.F ht⟩) hS.2.2 dX5_foundIfGot_23
set_option maxHeartbeats 4000000 in
set_option maxRecDepth 100000 in
theorem c_X5_rankIfGot (l : Launch) (E : wE) (g : Nat → Nat) (ln : Nat) (bf : Nat → Int32) (z : SS) (ke : Nat) (hs : Nat → SS) (i : Nat) (hi3 : i < 3) (k0 : Nat) (hk0 : k0 ≤ 9999) : Met l yX5_rankIfGot wsX5_rankIfGot ({ frames := 5, cells := 0, slots := 0, locals := 126 }) (va_Pc [.ref ((g 0)), .ref ((off g 8 (3 + 3 * i))), .int (nI k0)] (wSd E 94 g (wF 94 g) (MB E g ln bf z ke hs))) (va_Qi (fun (r : Int32) (_ : Unit) => r = rankQ (getS (mixS z.1 z.2.1 k0) (z.2.2.2 i).2).2) (fun _ t => MB E g ln bf z ke hs (t.heap)) (wF 94 g)) 0 0 (wF 94 g) := by
  refine Met.ofW (cc := cX5_rankIfGot) (maxL := 3) (ret := (some .int)) (by decide) rfl ?_
  intro p e s m args below meth c s₁ B hml hv
  obtain ⟨rfl, ⟨ol, zs, ⟨hol, hke, hzs, hln, hnb2, hnb⟩, hM, ⟨⟨pa, hPa⟩, ⟨el, hEl⟩, ⟨tli, tq, hTr⟩⟩, hN, hHi, hHs⟩, hK, hI, hdg⟩ := hv
  have hx := B.exec
  have hb := B.bytes
  have hr := B.returns
  have hts := atoms_spec (ws := wsX5_rankIfGot) B.pre
  have hown : s.vm.findClass RX5 = some m.cls := findClass_of_methodNamed B.named
  have hlocks := B.notSynchronized
  have hS : va_S (wF 94 g) s.heap s.heap [] := va_S.rf
  have hin5 : ∀ w ∈ wsX50, w ∈ wsX5_rankIfGot := by decide +kernel
  have hA : ∀ k, k < 94 → (wF 94 g) (g k) := wF_in
  have hl := lv_entry ([.ref ((g 0)), .ref ((off g 8 (3 + 3 * i))), .int (nI k0)]) (n := 3) (Nat.le_of_ble_eq_true rfl)
  rw [lg_entry_eq]
  generalize (lg_sl ([.ref ((g 0)), .ref ((off g 8 (3 + 3 * i))), .int (nI k0)]) ++ List.replicate (3 - (lg_sl ([.ref ((g 0)), .ref ((off g 8 (3 + 3 * i))), .int (nI k0)])).length) Slot.unset).toArray = ls at hl ⊢
  have hl : lv_has ls 3 [(0, .ref ((g 0))), (1, .ref ((off g 8 (3 + 3 * i)))), (2, .int (nI k0))] := hl
  have hN : stP E (off g 8) z.1 z.2.1 z.2.2.1 z.2.2.2 s.heap := hN
  refine lv_aload_n hx hb dX5_rankIfGot_0 rfl (lv_at hl 0 rfl) ?_
  refine w_get (C := RX5) (T := TX5) (N := 7) (ci := 5) (v := .ref ((g 5))) hx hb hts hin5 hown hK hM 0 (by decide) rfl rfl 5 (by decide) (hts (.fieldLink RX5 41 "MixedBlocks" "trial" "LMixedBlocks$Receiver;") (List.mem_of_getElem? (i := 1) rfl)) (fun _ h9 => h9) rfl dX5_rankIfGot_1 ?_
  refine lv_aload_n hx hb dX5_rankIfGot_4 rfl (lv_at hl 1 rfl) ?_
  have hRi := hN.2 i (by omega)
  obtain ⟨hlnI, lfI, hlfI, hPI⟩ := id hRi
  obtain ⟨_, _, _, hTP⟩ := id hTr
  have hXt : wX 3 (off g 5) 3 (rg (off g 8) i) := (off_X (o := 5) (n := 3) (o2 := 8) (n2 := 12) hI (by decide) (by decide) (by decide)).rg (by omega)
  refine va_callv (va_runV (As := [.ref ((off g 8 (3 + 3 * i)))]) (rest := []) ⟨hx, hb, hml, hown, hts⟩ (c_X3_become l E (off g 5) tli tq.1 tq.2.1 tq.2.2.1 tq.2.2.2.1 tq.2.2.2.2.1 tq.2.2.2.2.2 (rg (off g 8) i) (z.2.2.2 i).1 (z.2.2.2 i).2.1 (z.2.2.2 i).2.2.1 (z.2.2.2 i).2.2.2.1 (z.2.2.2 i).2.2.2.2.1 (z.2.2.2 i).2.2.2.2.2.1 (z.2.2.2 i).2.2.2.2.2.2 (off_I hI (by decide)) (rg_I (off_I hI (by decide)) (by omega)) hXt) (cwV 1 hts gX5_rankIfGot_X3_become rfl rfl rfl (by decide +kernel) ⟨Nat.le_of_ble_eq_true rfl, Nat.le_of_ble_eq_true rfl⟩) ⟨wS.blind, (w_recv hK hTP 0 (by decide) rfl (ci := 3) rfl), fun U hU hW => wS.go ⟨hTr, hRi⟩ hK wI0 hU hW⟩ rfl rfl hl.1 rfl (lv_room (Nat.le_of_ble_eq_true rfl)) dX5_rankIfGot_5 ⟨Nat.zero_le _, Nat.zero_le _⟩) hS (fun q _ h => (off_inTR (i := i) (by omega)) q h) (off_inTR (i := i) (by omega)) (fun uu t H_1 locs_1 ht hvm hw hB hz1 hk1 hS => ?_)
  rw [ht] at hB
  have hTr : rcT E (off g 5) (z.2.2.2 i).1 (z.2.2.2 i).2 H_1 := hB.1
  have hN := stP.setT hI hN (by omega) hk1 hB.2
  have hM := hM.other hk1 ((off_M hI (by decide) (by decide)).out2 ((off_M (n2 := 12) hI (by decide) (by decide)).rg (by omega)))
  have hPa := hPa.other hk1 ((off_X hI (by decide) (by decide) (by decide)).out2 ((off_X (n2 := 12) hI (by decide) (by decide) (by decide)).rg (by omega)))
  have hEl := hEl.other hk1 ((off_X hI (by decide) (by decide) (by decide)).out2 ((off_X (n2 := 12) hI (by decide) (by decide) (by decide)).rg (by omega)))
  have hHi := hHi.other hk1 ((off_X hI (by decide) (by decide) (by decide)).out2 ((off_X (n2 := 12) hI (by decide) (by decide) (by decide)).rg (by omega)))
  have hHs := hHs.other hk1 ((off_X hI (by decide) (by decide) (by decide)).out2 ((off_X (n2 := 12) hI (by decide) (by decide) (by decide)).rg (by omega)))
  refine lv_aload_n hx hb dX5_rankIfGot_8 rfl (lv_at hl 0 rfl) ?_
  refine w_get (C := RX5) (T := TX5) (N := 7) (ci := 5) (v := .ref ((g 5))) hx hb hts hin5 hown hK hM 0 (by decide) rfl rfl 5 (by decide) (hts (.fieldLink RX5 41 "MixedBlocks" "trial" "LMixedBlocks$Receiver;") (List.mem_of_getElem? (i := 1) rfl)) (fun _ h9 => h9) rfl dX5_rankIfGot_9 ?_
  refine lv_aload_n hx hb dX5_rankIfGot_12 rfl (lv_at hl 0 rfl) ?_
  refine w_get (C := RX5) (T := TX5) (N := 7) (ci := 5) (v := .ref ((g 8))) hx hb hts hin5 hown hK hM 0 (by decide) rfl rfl 0 (by decide) (hts (.fieldLink RX5 12 "MixedBlocks" "now" "LMixedBlocks$State;") (List.mem_of_getElem? (i := 2) rfl)) (fun _ h9 => h9) rfl dX5_rankIfGot_13 ?_
  refine lv_iload_n hx hb dX5_rankIfGot_16 rfl (lv_at hl 2 rfl) ?_
  refine va_calli (va_runV (As := [.int (nI k0)]) (rest := [.ref ((g 5))]) ⟨hx, hb, hml, hown, hts⟩ (c_X4_mixOf l E (off g 8) z.1 z.2.1 z.2.2.1 z.2.2.2 k0 (by omega) hnb2 hnb) (cwV 1 hts gX5_rankIfGot_X4_mixOf rfl rfl rfl (by decide +kernel) ⟨Nat.le_of_ble_eq_true rfl, Nat.le_of_ble_eq_true rfl⟩) ⟨wSd.blind, (w_recv hK hN.1 0 (by decide) rfl (ci := 4) rfl), fun U hU hW => wSd.go hN hK (off_I hI (by decide)) hdg hS (fun q h => h.elim) hU hW⟩ rfl rfl hl.1 rfl (lv_room (Nat.le_of_ble_eq_true rfl)) dX5_rankIfGot_17 ⟨Nat.zero_le _, Nat.zero_le _⟩) hS (fun q _ h => h.elim) (fun q h => h.elim) (fun r_2 uu t H_2 locs_2 ht hvm hw hB hz1 hk1 hS => ?_)
  have hM := hM.same hk1
  have hPa := hPa.same hk1
  have hEl := hEl.same hk1
  have hTr := hTr.same hk1
  have hN := hN.same hk1
  have hHi := hHi.same hk1
  have hHs := hHs.same hk1
  obtain rfl : r_2 = (mixS z.1 z.2.1 k0) := hw
  obtain ⟨_, _, _, hTP⟩ := id hTr
  refine va_calli (va_runV (As := [.int ((mixS z.1 z.2.1 k0))]) (rest := []) ⟨hx, hb, hml, hown, hts⟩ (c_X3_get l E (off g 5) (z.2.2.2 i).1 ((z.2.2.2 i).2).1 ((z.2.2.2 i).2).2.1 ((z.2.2.2 i).2).2.2.1 ((z.2.2.2 i).2).2.2.2.1 ((z.2.2.2 i).2).2.2.2.2.1 ((z.2.2.2 i).2).2.2.2.2.2 (mixS z.1 z.2.1 k0)) (cwV 1 hts gX5_rankIfGot_X3_get rfl rfl rfl (by decide +kernel) ⟨Nat.le_of_ble_eq_true rfl, Nat.le_of_ble_eq_true rfl⟩) ⟨wS.blind, (w_recv hK hTP 0 (by decide) rfl (ci := 3) rfl), fun U hU hW => wS.go hTr hK (off_I hI (by decide)) hU hW⟩ rfl rfl hl.1 rfl (lv_room (Nat.le_of_ble_eq_true rfl)) dX5_rankIfGot_20 ⟨Nat.zero_le _, Nat.zero_le _⟩) hS (fun q _ h => (off_in (o := 5) (n := 3) (by decide)) q h) (off_in (o := 5) (n := 3) (by decide)) (fun r_3 uu t H_3 locs_3 ht hvm hw hB hz1 hk1 hS => ?_)
  rw [ht] at hB
  have hTr : rcT E (off g 5) (z.2.2.2 i).1 (getS (mixS z.1 z.2.1 k0) ((z.2.2.2 i).2)).2 H_3 := hB
  have hM := hM.other hk1 (off_M hI (by decide) (by decide)).out
  have hPa := hPa.other hk1 (off_X hI (by decide) (by decide) (by decide)).out
  have hEl := hEl.other hk1 (off_X hI (by decide) (by decide) (by decide)).out
  have hN := hN.other hk1 (off_X hI (by decide) (by decide) (by decide)).out
  have hHi := hHi.other hk1 (off_X hI (by decide) (by decide) (by decide)).out
  have hHs := hHs.other hk1 (off_X hI (by decide) (by decide) (by decide)).out
  obtain rfl : r_3 = (getS (mixS z.1 z.2.1 k0) ((z.2.2.2 i).2)).1 := hw
  refine lv_pop hx hb dX5_rankIfGot_23 rfl ?_
  refine lv_aload_n hx hb dX5_rankIfGot_24 rfl (lv_at hl 0 rfl) ?_
  refine w_get (C := RX5) (T := TX5) (N := 7) (ci := 5) (v := .ref ((g 5))) hx hb hts hin5 hown hK hM 0 (by decide) rfl rfl 5 (by decide) (hts (.fieldLink RX5 41 "MixedBlocks" "trial" "LMixedBlocks$Receiver;") (List.mem_of_getElem? (i := 1) rfl)) (fun _ h9 => h9) rfl dX5_rankIfGot_25 ?_
  refine lv_aload_n hx hb dX5_rankIfGot_28 rfl (lv_at hl 0 rfl) ?_
  refine w_get (C := RX5) (T := TX5) (N := 7) (ci := 5) (v := .ref ((g 3))) hx hb hts hin5 hown hK hM 0 (by decide) rfl rfl 6 (by decide) (hts (.fieldLink RX5 48 "MixedBlocks" "elimination" "LMixedBlocks$Elimination;") (List.mem_of_getElem? (i := 3) rfl)) (fun _ h9 => h9) rfl dX5_rankIfGot_29 ?_
  obtain ⟨_, _, _, hTP⟩ := id hTr
  refine va_calli (va_runV (As := [.ref ((g 3))]) (rest := []) ⟨hx, hb, hml, hown, hts⟩ (c_X3_rank l E (off g 5) (z.2.2.2 i).1 ((getS (mixS z.1 z.2.1 k0) ((z.2.2.2 i).2)).2).1 ((getS (mixS z.1 z.2.1 k0) ((z.2.2.2 i).2)).2).2.1 ((getS (mixS z.1 z.2.1 k0) ((z.2.2.2 i).2)).2).2.2.1 ((getS (mixS z.1 z.2.1 k0) ((z.2.2.2 i).2)).2).2.2.2.1 ((getS (mixS z.1 z.2.1 k0) ((z.2.2.2 i).2)).2).2.2.2.2.1 ((getS (mixS z.1 z.2.1 k0) ((z.2.2.2 i).2)).2).2.2.2.2.2 (off g 3) el.1 el.2 (off_I hI (by decide)) (off_I hI (by decide)) (off_X hI (by decide) (by decide) (by decide))) (cwV 1 hts gX5_rankIfGot_X3_rank rfl rfl rfl (by decide +kernel) ⟨Nat.le_of_ble_eq_true rfl, Nat.le_of_ble_eq_true rfl⟩) ⟨wS.blind, (w_recv hK hTP 0 (by decide) rfl (ci := 3) rfl), fun U hU hW => wS.go ⟨hTr, hEl⟩ hK wI0 hU hW⟩ rfl rfl hl.1 rfl (lv_room (Nat.le_of_ble_eq_true rfl)) dX5_rankIfGot_32 ⟨Nat.zero_le _, Nat.zero_le _⟩) hS (fun q _ h => (off_in (o := 3) (n := 2) (by decide)) q h) (off_in (o := 3) (n := 2) (by decide)) (fun r_4 uu t H_4 locs_4 ht hvm hw hB hz1 hk1 hS => ?_)
  rw [ht] at hB
  have hEl : wP E 2 (off g 3) (elF E (off g 3) (lookS ((getS (mixS z.1 z.2.1 k0) ((z.2.2.2 i).2)).2).2.2.1).1 (lookS ((getS (mixS z.1 z.2.1 k0) ((z.2.2.2 i).2)).2).2.2.1).2) H_4 := hB
  have hM := hM.other hk1 (off_M hI (by decide) (by decide)).out
  have hPa := hPa.other hk1 (off_X hI (by decide) (by decide) (by decide)).out
  have hTr := hTr.other hk1 (off_X hI (by decide) (by decide) (by decide)).out
  have hN := hN.other hk1 (off_X hI (by decide) (by decide) (by decide)).out
  have hHi := hHi.other hk1 (off_X hI (by decide) (by decide) (by decide)).out
  have hHs := hHs.other hk1 (off_X hI (by decide) (by decide) (by decide)).out
  obtain rfl : r_4 = (rankQ ((getS (mixS z.1 z.2.1 k0) ((z.2.2.2 i).2)).2)) := hw
  exact W.iret (v := (rankQ ((getS (mixS z.1 z.2.1 k0) ((z.2.2.2 i).2)).2))) hx hb hr (fun t ht hW => ⟨⟨_, (), rfl, rfl, (by show MB E g ln bf z ke hs t.heap; rw [ht]; exact ⟨ol, zs, ⟨hol, hke, hzs, hln, hnb2, hnb⟩, hM, ⟨⟨(pa.1, pa.2.1, pa.2.2), hPa⟩, ⟨((lookS ((getS (mixS z.1 z.2.1 k0) ((z.2.2.2 i).2)).2).2.2.1).1, (lookS ((getS (mixS z.1 z.2.1 k0) ((z.2.2.2 i).2)).2).2.2.1).2), hEl⟩, ⟨(z.2.2.2 i).1, (getS (mixS z.1 z.2.1 k0) ((z.2.2.2 i).2)).2, hTr⟩⟩, hN, hHi, hHs⟩)⟩, hS.F ht⟩) hS.2.2 dX5_rankIfGot_35
set_option maxHeartbeats 4000000 in
set_option maxRecDepth 100000 in
theorem c_X5_foundIfEliminated (l : Launch) (E : wE) (g : Nat → Nat) (ln : Nat) (bf : Nat → Int32) (z : SS) (ke : Nat) (hs : Nat → SS) (i : Nat) (hi3 : i < 3) : Met l yX5_foundIfEliminated wsX5_foundIfEliminated ({ frames := 5, cells := 0, slots := 0, locals := 109 }) (va_Pc [.ref ((g 0)), .ref ((off g 8 (3 + 3 * i)))] (wS E 94 g (MB E g ln bf z ke hs))) (va_Qi (fun (r : Int32) (_ : Unit) => r = (findS (z.2.2.2 i).2).2.2.2.2) (fun _ t => MB E g ln bf z ke hs (t.heap)) (wF 94 g)) 0 0 (wF 94 g) := by
  refine Met.ofW (cc := cX5_foundIfEliminated) (maxL := 2) (ret := (some .int)) (by decide) rfl ?_
  intro p e s m args below meth c s₁ B hml hv
  obtain ⟨rfl, ⟨ol, zs, ⟨hol, hke, hzs, hln, hnb2, hnb⟩, hM, ⟨⟨pa, hPa⟩, ⟨el, hEl⟩, ⟨tli, tq, hTr⟩⟩, hN, hHi, hHs⟩, hK, hI⟩ := hv
  have hx := B.exec
  have hb := B.bytes
  have hr := B.returns
  have hts := atoms_spec (ws := wsX5_foundIfEliminated) B.pre
  have hown : s.vm.findClass RX5 = some m.cls := findClass_of_methodNamed B.named
  have hlocks := B.notSynchronized
  have hS : va_S (wF 94 g) s.heap s.heap [] := va_S.rf
  have hin5 : ∀ w ∈ wsX50, w ∈ wsX5_foundIfEliminated := by decide +kernel
  have hA : ∀ k, k < 94 → (wF 94 g) (g k) := wF_in
  have hl := lv_entry ([.ref ((g 0)), .ref ((off g 8 (3 + 3 * i)))]) (n := 2) (Nat.le_of_ble_eq_true rfl)
  rw [lg_entry_eq]
  generalize (lg_sl ([.ref ((g 0)), .ref ((off g 8 (3 + 3 * i)))]) ++ List.replicate (2 - (lg_sl ([.ref ((g 0)), .ref ((off g 8 (3 + 3 * i)))])).length) Slot.unset).toArray = ls at hl ⊢
  have hl : lv_has ls 2 [(0, .ref ((g 0))), (1, .ref ((off g 8 (3 + 3 * i))))] := hl
  have hN : stP E (off g 8) z.1 z.2.1 z.2.2.1 z.2.2.2 s.heap := hN
  refine lv_aload_n hx hb dX5_foundIfEliminated_0 rfl (lv_at hl 0 rfl) ?_
  refine w_get (C := RX5) (T := TX5) (N := 7) (ci := 5) (v := .ref ((g 5))) hx hb hts hin5 hown hK hM 0 (by decide) rfl rfl 5 (by decide) (hts (.fieldLink RX5 41 "MixedBlocks" "trial" "LMixedBlocks$Receiver;") (List.mem_of_getElem? (i := 1) rfl)) (fun _ h9 => h9) rfl dX5_foundIfEliminated_1 ?_
  refine lv_aload_n hx hb dX5_foundIfEliminated_4 rfl (lv_at hl 1 rfl) ?_
  have hRi := hN.2 i (by omega)
  obtain ⟨hlnI, lfI, hlfI, hPI⟩ := id hRi
  obtain ⟨_, _, _, hTP⟩ := id hTr
  have hXt : wX 3 (off g 5) 3 (rg (off g 8) i) := (off_X (o := 5) (n := 3) (o2 := 8) (n2 := 12) hI (by decide) (by decide) (by decide)).rg (by omega)
  refine va_callv (va_runV (As := [.ref ((off g 8 (3 + 3 * i)))]) (rest := []) ⟨hx, hb, hml, hown, hts⟩ (c_X3_become l E (off g 5) tli tq.1 tq.2.1 tq.2.2.1 tq.2.2.2.1 tq.2.2.2.2.1 tq.2.2.2.2.2 (rg (off g 8) i) (z.2.2.2 i).1 (z.2.2.2 i).2.1 (z.2.2.2 i).2.2.1 (z.2.2.2 i).2.2.2.1 (z.2.2.2 i).2.2.2.2.1 (z.2.2.2 i).2.2.2.2.2.1 (z.2.2.2 i).2.2.2.2.2.2 (off_I hI (by decide)) (rg_I (off_I hI (by decide)) (by omega)) hXt) (cwV 1 hts gX5_foundIfEliminated_X3_become rfl rfl rfl (by decide +kernel) ⟨Nat.le_of_ble_eq_true rfl, Nat.le_of_ble_eq_true rfl⟩) ⟨wS.blind, (w_recv hK hTP 0 (by decide) rfl (ci := 3) rfl), fun U hU hW => wS.go ⟨hTr, hRi⟩ hK wI0 hU hW⟩ rfl rfl hl.1 rfl (lv_room (Nat.le_of_ble_eq_true rfl)) dX5_foundIfEliminated_5 ⟨Nat.zero_le _, Nat.zero_le _⟩) hS (fun q _ h => (off_inTR (i := i) (by omega)) q h) (off_inTR (i := i) (by omega)) (fun uu t H_1 locs_1 ht hvm hw hB hz1 hk1 hS => ?_)
  rw [ht] at hB
  have hTr : rcT E (off g 5) (z.2.2.2 i).1 (z.2.2.2 i).2 H_1 := hB.1
  have hN := stP.setT hI hN (by omega) hk1 hB.2
  have hM := hM.other hk1 ((off_M hI (by decide) (by decide)).out2 ((off_M (n2 := 12) hI (by decide) (by decide)).rg (by omega)))
  have hPa := hPa.other hk1 ((off_X hI (by decide) (by decide) (by decide)).out2 ((off_X (n2 := 12) hI (by decide) (by decide) (by decide)).rg (by omega)))
  have hEl := hEl.other hk1 ((off_X hI (by decide) (by decide) (by decide)).out2 ((off_X (n2 := 12) hI (by decide) (by decide) (by decide)).rg (by omega)))
  have hHi := hHi.other hk1 ((off_X hI (by decide) (by decide) (by decide)).out2 ((off_X (n2 := 12) hI (by decide) (by decide) (by decide)).rg (by omega)))
  have hHs := hHs.other hk1 ((off_X hI (by decide) (by decide) (by decide)).out2 ((off_X (n2 := 12) hI (by decide) (by decide) (by decide)).rg (by omega)))
  refine lv_aload_n hx hb dX5_foundIfEliminated_8 rfl (lv_at hl 0 rfl) ?_
  refine w_get (C := RX5) (T := TX5) (N := 7) (ci := 5) (v := .ref ((g 5))) hx hb hts hin5 hown hK hM 0 (by decide) rfl rfl 5 (by decide) (hts (.fieldLink RX5 41 "MixedBlocks" "trial" "LMixedBlocks$Receiver;") (List.mem_of_getElem? (i := 1) rfl)) (fun _ h9 => h9) rfl dX5_foundIfEliminated_9 ?_
  refine lv_aload_n hx hb dX5_foundIfEliminated_12 rfl (lv_at hl 0 rfl) ?_
  refine w_get (C := RX5) (T := TX5) (N := 7) (ci := 5) (v := .ref ((g 3))) hx hb hts hin5 hown hK hM 0 (by decide) rfl rfl 6 (by decide) (hts (.fieldLink RX5 48 "MixedBlocks" "elimination" "LMixedBlocks$Elimination;") (List.mem_of_getElem? (i := 2) rfl)) (fun _ h9 => h9) rfl dX5_foundIfEliminated_13 ?_
  obtain ⟨_, _, _, hTP⟩ := id hTr
  refine va_calli (va_runV (As := [.ref ((g 3))]) (rest := []) ⟨hx, hb, hml, hown, hts⟩ (c_X3_findTogether l E (off g 5) (z.2.2.2 i).1 ((z.2.2.2 i).2).1 ((z.2.2.2 i).2).2.1 ((z.2.2.2 i).2).2.2.1 ((z.2.2.2 i).2).2.2.2.1 ((z.2.2.2 i).2).2.2.2.2.1 ((z.2.2.2 i).2).2.2.2.2.2 (off g 3) el.1 el.2 (off_I hI (by decide)) (off_I hI (by decide)) (off_X hI (by decide) (by decide) (by decide))) (cwV 1 hts gX5_foundIfEliminated_X3_findTogether rfl rfl rfl (by decide +kernel) ⟨Nat.le_of_ble_eq_true rfl, Nat.le_of_ble_eq_true rfl⟩) ⟨wS.blind, (w_recv hK hTP 0 (by decide) rfl (ci := 3) rfl), fun U hU hW => wS.go ⟨hTr, hEl⟩ hK wI0 hU hW⟩ rfl rfl hl.1 rfl (lv_room (Nat.le_of_ble_eq_true rfl)) dX5_foundIfEliminated_16 ⟨Nat.zero_le _, Nat.zero_le _⟩) hS (fun q _ h => (off_in2 (o := 5) (n := 3) (o2 := 3) (n2 := 2) (by decide) (by decide)) q h) (off_in2 (o := 5) (n := 3) (o2 := 3) (n2 := 2) (by decide) (by decide)) (fun r_2 uu t H_2 locs_2 ht hvm hw hB hz1 hk1 hS => ?_)
  rw [ht] at hB
  have hTr : rcT E (off g 5) (z.2.2.2 i).1 (elimQ ((z.2.2.2 i).2)) H_2 := hB.1
  have hEl : wP E 2 (off g 3) (elF E (off g 3) (lookS ((z.2.2.2 i).2).2.2.1).1 (lookS ((z.2.2.2 i).2).2.2.1).2) H_2 := hB.2
  have hM := hM.other hk1 ((off_M hI (by decide) (by decide)).out2 (off_M hI (by decide) (by decide)))
  have hPa := hPa.other hk1 ((off_X hI (by decide) (by decide) (by decide)).out2 (off_X hI (by decide) (by decide) (by decide)))
  have hN := hN.other hk1 ((off_X hI (by decide) (by decide) (by decide)).out2 (off_X hI (by decide) (by decide) (by decide)))
  have hHi := hHi.other hk1 ((off_X hI (by decide) (by decide) (by decide)).out2 (off_X hI (by decide) (by decide) (by decide)))
  have hHs := hHs.other hk1 ((off_X hI (by decide) (by decide) (by decide)).out2 (off_X hI (by decide) (by decide) (by decide)))
  obtain rfl : r_2 = (findS ((z.2.2.2 i).2)).2.2.2.2 := hw
  exact W.iret (v := ((findS ((z.2.2.2 i).2)).2.2.2.2)) hx hb hr (fun t ht hW => ⟨⟨_, (), rfl, rfl, (by show MB E g ln bf z ke hs t.heap; rw [ht]; exact ⟨ol, zs, ⟨hol, hke, hzs, hln, hnb2, hnb⟩, hM, ⟨⟨(pa.1, pa.2.1, pa.2.2), hPa⟩, ⟨((lookS ((z.2.2.2 i).2).2.2.1).1, (lookS ((z.2.2.2 i).2).2.2.1).2), hEl⟩, ⟨(z.2.2.2 i).1, (elimQ ((z.2.2.2 i).2)), hTr⟩⟩, hN, hHi, hHs⟩)⟩, hS.F ht⟩) hS.2.2 dX5_foundIfEliminated_19
set_option maxHeartbeats 4000000 in
set_option maxRecDepth 100000 in
theorem c_X5_nextHelp (l : Launch) (E : wE) (g : Nat → Nat) (ln : Nat) (bf : Nat → Int32) (z : SS) (ke : Nat) (hs : Nat → SS) (i : Nat) (hi3 : i < 3) (fr : Nat) (hfr : fr ≤ 9999) : Met l yX5_nextHelp wsX5_nextHelp ({ frames := 3, cells := 0, slots := 0, locals := 126 }) (va_Pc [.ref ((g 0)), .ref ((off g 8 (3 + 3 * i))), .int (nI fr)] (wSd E 94 g wN (MB E g ln bf z ke hs))) (va_Qi (fun (r : Int32) (_ : Unit) => r = nhS (helpB z (z.2.2.2 i)) (nhN fr) fr) (fun _ t => True) wN) 0 0 wN := by
  refine Met.ofW (cc := cX5_nextHelp) (maxL := 4) (ret := (some .int)) (by decide) rfl ?_
  intro p e s m args below meth c s₁ B hml hv
  obtain ⟨rfl, ⟨ol, zs, ⟨hol, hke, hzs, hln, hnb2, hnb⟩, hM, ⟨⟨pa, hPa⟩, ⟨el, hEl⟩, ⟨tli, tq, hTr⟩⟩, hN, hHi, hHs⟩, hK, hI, hdg⟩ := hv
  have hx := B.exec
  have hb := B.bytes
  have hr := B.returns
  have hts := atoms_spec (ws := wsX5_nextHelp) B.pre
  have hown : s.vm.findClass RX5 = some m.cls := findClass_of_methodNamed B.named
  have hlocks := B.notSynchronized
  have hS : va_S wN s.heap s.heap [] := va_S.rf
  have hin5 : ∀ w ∈ wsX50, w ∈ wsX5_nextHelp := by decide +kernel
  have hl := lv_entry ([.ref ((g 0)), .ref ((off g 8 (3 + 3 * i))), .int (nI fr)]) (n := 4) (Nat.le_of_ble_eq_true rfl)
  rw [lg_entry_eq]
  generalize (lg_sl ([.ref ((g 0)), .ref ((off g 8 (3 + 3 * i))), .int (nI fr)]) ++ List.replicate (4 - (lg_sl ([.ref ((g 0)), .ref ((off g 8 (3 + 3 * i))), .int (nI fr)])).length) Slot.unset).toArray = ls at hl ⊢
  have hl : lv_has ls 4 [(0, .ref ((g 0))), (1, .ref ((off g 8 (3 + 3 * i)))), (2, .int (nI fr))] := hl
  have hN : stP E (off g 8) z.1 z.2.1 z.2.2.1 z.2.2.2 s.heap := hN
  refine lv_iload_n hx hb dX5_nextHelp_0 rfl (lv_at hl 2 rfl) ?_
  refine lv_istore_n (lv' := [(3, .int (nI fr)), (0, .ref ((g 0))), (1, .ref ((off g 8 (3 + 3 * i)))), (2, .int (nI fr))]) hx hb dX5_nextHelp_1 rfl hl (by decide) rfl (fun ls hl => ?_)
  have hnn : nhN fr ≤ 100 ∧ fr + nhN fr ≤ 10000 ∧ (nhN fr = 100 ∨ fr + nhN fr = 10000) := by unfold nhN; split <;> omega
  have L2 : ∀ (k : Nat) (mm : Nat) (H : Heap) (locs : List Loc) (ls : Array Slot), mm + k = fr + nhN fr → nhS (helpB z (z.2.2.2 i)) k mm = nhS (helpB z (z.2.2.2 i)) (nhN fr) fr → wP E 2 g (mbF E g ln bf) H → wP E 1 (off g 2) (paF pa.1 pa.2.1 pa.2.2) H → wP E 2 (off g 3) (elF E (off g 3) el.1 el.2) H → rcT E (off g 5) tli tq H → stP E (off g 8) z.1 z.2.1 z.2.2.1 z.2.2.2 H → wP E 2 (off g 20) (hiF E (off g 20) ol ke) H → hiS E (off g 20) zs H → va_S wN s.heap H locs → lv_has ls 4 [(3, .int (nI mm)), (0, .ref ((g 0))), (1, .ref ((off g 8 (3 + 3 * i)))), (2, .int (nI fr))] → W p l e (headSpec wsX5_nextHelp ({ frames := 3, cells := 0, slots := 0, locals := 126 })).room s m ([.ref ((g 0)), .ref ((off g 8 (3 + 3 * i))), .int (nI fr)] : List Value).toArray below meth c H locs 0 0 (MQ below (va_Qi (fun (r : Int32) (_ : Unit) => r = nhS (helpB z (z.2.2.2 i)) (nhN fr) fr) (fun _ t => True) wN) ([.ref ((g 0)), .ref ((off g 8 (3 + 3 * i))), .int (nI fr)] : List Value).toArray s 0 0 wN) (F0 m 2 ls []) := by
    intro k
    induction k with
    | zero =>
      intro mm H locs ls hi hres hM hPa hEl hTr hN hHi hHs hS hl
      refine lv_iload_n hx hb dX5_nextHelp_2 rfl (lv_at hl 0 rfl) ?_
      refine lv_sipush (v := 9999) hx hb dX5_nextHelp_3 (by decide) ?_
      refine lv_icmp_gt (tgt := 44) hx hb dX5_nextHelp_6 (by decide) (fun c_1 => ?_) (fun c_1 => ?_)
      · have h6 : 9999 < mm := (nI_ltI (a := 9999) (b := mm) (by omega) (by omega)).mp c_1
        refine lv_iconst (v := (-1)) hx hb dX5_nextHelp_44 (by decide) ?_
        exact W.iret (v := (-1)) hx hb hr (fun t ht hW => ⟨⟨_, (), rfl, (by show _ = _; rw [← hres]; rfl), trivial⟩, hS.F ht⟩) hS.2.2 dX5_nextHelp_45
      · have h6 : ¬ 9999 < mm := fun y => c_1 ((nI_ltI (a := 9999) (b := mm) (by omega) (by omega)).mpr y)
        refine lv_iload_n hx hb dX5_nextHelp_9 rfl (lv_at hl 0 rfl) ?_
        refine lv_iload_n hx hb dX5_nextHelp_10 rfl (lv_at hl 3 rfl) ?_
        refine lv_bipush (v := 100) hx hb dX5_nextHelp_11 (by decide) ?_
        refine lv_iadd hx hb dX5_nextHelp_13 ?_
        rw [show (nI fr) + 100 = nI (fr + 100) from nI_add _ _]
        refine lv_icmp_ge (tgt := 44) hx hb dX5_nextHelp_14 (by decide) (fun c_2 => ?_) (fun c_2 => ?_)
        · have h14 : fr + 100 ≤ mm := (nI_leI (a := fr + 100) (b := mm) (by omega) (by omega)).mp c_2
          refine lv_iconst (v := (-1)) hx hb dX5_nextHelp_44 (by decide) ?_
          exact W.iret (v := (-1)) hx hb hr (fun t ht hW => ⟨⟨_, (), rfl, (by show _ = _; rw [← hres]; rfl), trivial⟩, hS.F ht⟩) hS.2.2 dX5_nextHelp_45
        · have h14 : ¬ fr + 100 ≤ mm := fun y => c_2 ((nI_leI (a := fr + 100) (b := mm) (by omega) (by omega)).mpr y)
          exfalso
          omega
    | succ k ih =>
      intro mm H locs ls hi hres hM hPa hEl hTr hN hHi hHs hS hl
      refine lv_iload_n hx hb dX5_nextHelp_2 rfl (lv_at hl 0 rfl) ?_
      refine lv_sipush (v := 9999) hx hb dX5_nextHelp_3 (by decide) ?_
      refine lv_icmp_gt (tgt := 44) hx hb dX5_nextHelp_6 (by decide) (fun c_3 => ?_) (fun c_3 => ?_)
      · have h6 : 9999 < mm := (nI_ltI (a := 9999) (b := mm) (by omega) (by omega)).mp c_3
        exfalso
        omega
      · have h6 : ¬ 9999 < mm := fun y => c_3 ((nI_ltI (a := 9999) (b := mm) (by omega) (by omega)).mpr y)
        refine lv_iload_n hx hb dX5_nextHelp_9 rfl (lv_at hl 0 rfl) ?_
        refine lv_iload_n hx hb dX5_nextHelp_10 rfl (lv_at hl 3 rfl) ?_
        refine lv_bipush (v := 100) hx hb dX5_nextHelp_11 (by decide) ?_
        refine lv_iadd hx hb dX5_nextHelp_13 ?_
        rw [show (nI fr) + 100 = nI (fr + 100) from nI_add _ _]
        refine lv_icmp_ge (tgt := 44) hx hb dX5_nextHelp_14 (by decide) (fun c_4 => ?_) (fun c_4 => ?_)
        · have h14 : fr + 100 ≤ mm := (nI_leI (a := fr + 100) (b := mm) (by omega) (by omega)).mp c_4
          exfalso
          omega
        · have h14 : ¬ fr + 100 ≤ mm := fun y => c_4 ((nI_leI (a := fr + 100) (b := mm) (by omega) (by omega)).mpr y)
          refine lv_aload_n hx hb dX5_nextHelp_17 rfl (lv_at hl 2 rfl) ?_
          refine lv_aload_n hx hb dX5_nextHelp_18 rfl (lv_at hl 1 rfl) ?_
          refine w_get (C := RX5) (T := TX5) (N := 7) (ci := 5) (v := .ref ((g 8))) hx hb hts hin5 hown hK hM 0 (by decide) rfl rfl 0 (by decide) (hts (.fieldLink RX5 12 "MixedBlocks" "now" "LMixedBlocks$State;") (List.mem_of_getElem? (i := 1) rfl)) (fun _ h9 => h9) rfl dX5_nextHelp_19 ?_
          refine lv_iload_n hx hb dX5_nextHelp_22 rfl (lv_at hl 0 rfl) ?_
          refine va_calli (va_runV (As := [.int (nI mm)]) (rest := [.ref ((off g 8 (3 + 3 * i)))]) ⟨hx, hb, hml, hown, hts⟩ (c_X4_mixOf l E (off g 8) z.1 z.2.1 z.2.2.1 z.2.2.2 mm (by omega) hnb2 hnb) (cwV 1 hts gX5_nextHelp_X4_mixOf rfl rfl rfl (by decide +kernel) ⟨Nat.le_of_ble_eq_true rfl, Nat.le_of_ble_eq_true rfl⟩) ⟨wSd.blind, (w_recv hK hN.1 0 (by decide) rfl (ci := 4) rfl), fun U hU hW => wSd.go hN hK (off_I hI (by decide)) hdg hS (fun q h => h.elim) hU hW⟩ rfl rfl hl.1 rfl (lv_room (Nat.le_of_ble_eq_true rfl)) dX5_nextHelp_23 ⟨Nat.zero_le _, Nat.zero_le _⟩) hS (fun q _ h => h.elim) (fun q h => h.elim) (fun r_5 uu t H_5 locs_5 ht hvm hw hB hz1 hk1 hS => ?_)
          have hM := hM.same hk1
          have hPa := hPa.same hk1
          have hEl := hEl.same hk1
          have hTr := hTr.same hk1
          have hN := hN.same hk1
          have hHi := hHi.same hk1
          have hHs := hHs.same hk1
          obtain rfl : r_5 = (mixS z.1 z.2.1 mm) := hw
          have hRi := hN.2 i (by omega)
          obtain ⟨hlnI, lfI, hlfI, hPI⟩ := id hRi
          refine va_calli (va_runV (As := [.int ((mixS z.1 z.2.1 mm))]) (rest := []) ⟨hx, hb, hml, hown, hts⟩ (c_X3_leftOf l E (rg (off g 8) i) (z.2.2.2 i).1 (z.2.2.2 i).2.1 (z.2.2.2 i).2.2.1 (z.2.2.2 i).2.2.2.1 (z.2.2.2 i).2.2.2.2.1 (z.2.2.2 i).2.2.2.2.2.1 (z.2.2.2 i).2.2.2.2.2.2 (mixS z.1 z.2.1 mm)) (cwV 1 hts gX5_nextHelp_X3_leftOf rfl rfl rfl (by decide +kernel) ⟨Nat.le_of_ble_eq_true rfl, Nat.le_of_ble_eq_true rfl⟩) ⟨wS.blind, (w_recv hK hPI 0 (by decide) rfl (ci := 3) rfl), fun U hU hW => wS.go hRi hK (rg_I (off_I hI (by decide)) (by omega)) hU hW⟩ rfl rfl hl.1 rfl (lv_room (Nat.le_of_ble_eq_true rfl)) dX5_nextHelp_26 ⟨Nat.zero_le _, Nat.zero_le _⟩) hS (fun q _ h => h.elim) (fun q h => h.elim) (fun r_6 uu t H_6 locs_6 ht hvm hw hB hz1 hk1 hS => ?_)
          have hM := hM.same hk1
          have hPa := hPa.same hk1
          have hEl := hEl.same hk1
          have hTr := hTr.same hk1
          have hN := hN.same hk1
          have hHi := hHi.same hk1
          have hHs := hHs.same hk1
          obtain rfl : r_6 = (leftOf (z.2.2.2 i).2.2.1 (mixS z.1 z.2.1 mm)) := hw
          refine va_calli (va_runS (As := [.int ((leftOf (z.2.2.2 i).2.2.1 (mixS z.1 z.2.1 mm)))]) (rest := []) ⟨hx, hb, hml, hown, hts⟩ (c_X5_blockCountOf l (leftOf (z.2.2.2 i).2.2.1 (mixS z.1 z.2.1 mm))) (va_cwS 1 hts gX5_nextHelp_X5_blockCountOf rfl rfl rfl (by decide +kernel) ⟨Nat.le_of_ble_eq_true rfl, Nat.le_of_ble_eq_true rfl⟩) ⟨wU_blind, fun U hU hW => ⟨rfl, trivial⟩⟩ rfl rfl hl.1 rfl (lv_room (Nat.le_of_ble_eq_true rfl)) dX5_nextHelp_29 ⟨Nat.zero_le _, Nat.zero_le _⟩) hS (fun q _ h => h.elim) (fun q h => h.elim) (fun r_7 uu t H_7 locs_7 ht hvm hw hB hz1 hk1 hS => ?_)
          have hM := hM.same hk1
          have hPa := hPa.same hk1
          have hEl := hEl.same hk1
          have hTr := hTr.same hk1
          have hN := hN.same hk1
          have hHi := hHi.same hk1
          have hHs := hHs.same hk1
          obtain rfl : r_7 = (bcI (leftOf (z.2.2.2 i).2.2.1 (mixS z.1 z.2.1 mm))) := hw
          refine lv_iconst (v := 1) hx hb dX5_nextHelp_32 (by decide) ?_
          refine lv_icmp_ne (tgt := 38) hx hb dX5_nextHelp_33 (by decide) (fun c_8 => ?_) (fun c_8 => ?_)
          · refine lv_iinc (v := (nI (mm + 1))) (lv' := [(3, .int (nI (mm + 1))), (0, .ref ((g 0))), (1, .ref ((off g 8 (3 + 3 * i)))), (2, .int (nI fr))]) hx hb dX5_nextHelp_38 hl (k := 0) rfl (nI_1 _) (by decide) rfl (fun ls hl => ?_)
            refine lv_goto (tgt := 2) hx hb dX5_nextHelp_41 (by decide) ?_
            have hres2 : nhS (helpB z (z.2.2.2 i)) k (mm + 1) = nhS (helpB z (z.2.2.2 i)) (nhN fr) fr := by rw [← hres, nhS, if_neg (show ¬ helpB z (z.2.2.2 i) mm = true from fun y => c_8 (of_decide_eq_true y))]
            exact ih (mm + 1) _ _ ls (by omega) hres2 hM hPa hEl hTr hN hHi hHs hS (lv_sub hl [0, 1, 2, 3] rfl)
          · refine lv_iload_n hx hb dX5_nextHelp_36 rfl (lv_at hl 0 rfl) ?_
            exact W.iret (v := (nI mm)) hx hb hr (fun t ht hW => ⟨⟨_, (), rfl, (by show _ = _; rw [← hres, nhS, if_pos (show helpB z (z.2.2.2 i) mm = true from decide_eq_true c_8)]), trivial⟩, hS.F ht⟩) hS.2.2 dX5_nextHelp_37
  exact L2 (nhN fr) fr _ _ ls rfl rfl hM hPa hEl hTr hN hHi hHs hS (lv_sub hl [0, 1, 2, 3] rfl)
set_option maxHeartbeats 4000000 in
set_option maxRecDepth 100000 in
theorem c_X5_mixesNeeded (l : Launch) (E : wE) (g : Nat → Nat) (ln : Nat) (bf : Nat → Int32) (z : SS) (ke : Nat) (hs : Nat → SS) (i : Nat) (hi3 : i < 3) (fr : Nat) (hfr : fr ≤ 9899) (eb : Bool) : Met l yX5_mixesNeeded wsX5_mixesNeeded ({ frames := 5, cells := 0, slots := 0, locals := 126 }) (va_Pc [.ref ((g 0)), .ref ((off g 8 (3 + 3 * i))), .int (nI fr), .int ((bI eb))] (wSd E 94 g (wF 94 g) (MB E g ln bf z ke hs))) (va_Qi (fun (r : Int32) (_ : Unit) => r = ndS z fr eb 100 0 (z.2.2.2 i).2) (fun _ t => MB E g ln bf z ke hs (t.heap)) (wF 94 g)) 0 0 (wF 94 g) := by
  refine Met.ofW (cc := cX5_mixesNeeded) (maxL := 5) (ret := (some .int)) (by decide) rfl ?_
  intro p e s m args below meth c s₁ B hml hv
  obtain ⟨rfl, ⟨ol, zs, ⟨hol, hke, hzs, hln, hnb2, hnb⟩, hM, ⟨⟨pa, hPa⟩, ⟨el, hEl⟩, ⟨tli, tq, hTr⟩⟩, hN, hHi, hHs⟩, hK, hI, hdg⟩ := hv
  have hx := B.exec
  have hb := B.bytes
  have hr := B.returns
  have hts := atoms_spec (ws := wsX5_mixesNeeded) B.pre
  have hown : s.vm.findClass RX5 = some m.cls := findClass_of_methodNamed B.named
  have hlocks := B.notSynchronized
  have hS : va_S (wF 94 g) s.heap s.heap [] := va_S.rf
  have hin5 : ∀ w ∈ wsX50, w ∈ wsX5_mixesNeeded := by decide +kernel
  have hA : ∀ k, k < 94 → (wF 94 g) (g k) := wF_in
  have hl := lv_entry ([.ref ((g 0)), .ref ((off g 8 (3 + 3 * i))), .int (nI fr), .int ((bI eb))]) (n := 5) (Nat.le_of_ble_eq_true rfl)
  rw [lg_entry_eq]
  generalize (lg_sl ([.ref ((g 0)), .ref ((off g 8 (3 + 3 * i))), .int (nI fr), .int ((bI eb))]) ++ List.replicate (5 - (lg_sl ([.ref ((g 0)), .ref ((off g 8 (3 + 3 * i))), .int (nI fr), .int ((bI eb))])).length) Slot.unset).toArray = ls at hl ⊢
  have hl : lv_has ls 5 [(0, .ref ((g 0))), (1, .ref ((off g 8 (3 + 3 * i)))), (2, .int (nI fr)), (3, .int ((bI eb)))] := hl
  have hN : stP E (off g 8) z.1 z.2.1 z.2.2.1 z.2.2.2 s.heap := hN
  refine lv_aload_n hx hb dX5_mixesNeeded_0 rfl (lv_at hl 0 rfl) ?_
  refine w_get (C := RX5) (T := TX5) (N := 7) (ci := 5) (v := .ref ((g 5))) hx hb hts hin5 hown hK hM 0 (by decide) rfl rfl 5 (by decide) (hts (.fieldLink RX5 41 "MixedBlocks" "trial" "LMixedBlocks$Receiver;") (List.mem_of_getElem? (i := 1) rfl)) (fun _ h9 => h9) rfl dX5_mixesNeeded_1 ?_
  refine lv_aload_n hx hb dX5_mixesNeeded_4 rfl (lv_at hl 1 rfl) ?_
  have hRi := hN.2 i (by omega)
  obtain ⟨hlnI, lfI, hlfI, hPI⟩ := id hRi
  obtain ⟨_, _, _, hTP⟩ := id hTr
  have hXt : wX 3 (off g 5) 3 (rg (off g 8) i) := (off_X (o := 5) (n := 3) (o2 := 8) (n2 := 12) hI (by decide) (by decide) (by decide)).rg (by omega)
  refine va_callv (va_runV (As := [.ref ((off g 8 (3 + 3 * i)))]) (rest := []) ⟨hx, hb, hml, hown, hts⟩ (c_X3_become l E (off g 5) tli tq.1 tq.2.1 tq.2.2.1 tq.2.2.2.1 tq.2.2.2.2.1 tq.2.2.2.2.2 (rg (off g 8) i) (z.2.2.2 i).1 (z.2.2.2 i).2.1 (z.2.2.2 i).2.2.1 (z.2.2.2 i).2.2.2.1 (z.2.2.2 i).2.2.2.2.1 (z.2.2.2 i).2.2.2.2.2.1 (z.2.2.2 i).2.2.2.2.2.2 (off_I hI (by decide)) (rg_I (off_I hI (by decide)) (by omega)) hXt) (cwV 1 hts gX5_mixesNeeded_X3_become rfl rfl rfl (by decide +kernel) ⟨Nat.le_of_ble_eq_true rfl, Nat.le_of_ble_eq_true rfl⟩) ⟨wS.blind, (w_recv hK hTP 0 (by decide) rfl (ci := 3) rfl), fun U hU hW => wS.go ⟨hTr, hRi⟩ hK wI0 hU hW⟩ rfl rfl hl.1 rfl (lv_room (Nat.le_of_ble_eq_true rfl)) dX5_mixesNeeded_5 ⟨Nat.zero_le _, Nat.zero_le _⟩) hS (fun q _ h => (off_inTR (i := i) (by omega)) q h) (off_inTR (i := i) (by omega)) (fun uu t H_1 locs_1 ht hvm hw hB hz1 hk1 hS => ?_)
  rw [ht] at hB
  have hTr : rcT E (off g 5) (z.2.2.2 i).1 (z.2.2.2 i).2 H_1 := hB.1
  have hN := stP.setT hI hN (by omega) hk1 hB.2
  have hM := hM.other hk1 ((off_M hI (by decide) (by decide)).out2 ((off_M (n2 := 12) hI (by decide) (by decide)).rg (by omega)))
  have hPa := hPa.other hk1 ((off_X hI (by decide) (by decide) (by decide)).out2 ((off_X (n2 := 12) hI (by decide) (by decide) (by decide)).rg (by omega)))
  have hEl := hEl.other hk1 ((off_X hI (by decide) (by decide) (by decide)).out2 ((off_X (n2 := 12) hI (by decide) (by decide) (by decide)).rg (by omega)))
  have hHi := hHi.other hk1 ((off_X hI (by decide) (by decide) (by decide)).out2 ((off_X (n2 := 12) hI (by decide) (by decide) (by decide)).rg (by omega)))
  have hHs := hHs.other hk1 ((off_X hI (by decide) (by decide) (by decide)).out2 ((off_X (n2 := 12) hI (by decide) (by decide) (by decide)).rg (by omega)))
  refine lv_iconst (v := 0) hx hb dX5_mixesNeeded_8 (by decide) ?_
  refine lv_istore (lv' := [(4, .int 0), (0, .ref ((g 0))), (1, .ref ((off g 8 (3 + 3 * i)))), (2, .int (nI fr)), (3, .int ((bI eb)))]) hx hb dX5_mixesNeeded_9 hl (by decide) rfl (fun ls hl => ?_)
  have L11 : ∀ (k : Nat) (tk : Nat) (q : RS) (le2 : Nat → Int32) (ro2 : Int32) (H : Heap) (locs : List Loc) (ls : Array Slot), tk + k = 100 → ndS z fr eb k tk q = ndS z fr eb 100 0 (z.2.2.2 i).2 → wP E 2 g (mbF E g ln bf) H → wP E 1 (off g 2) (paF pa.1 pa.2.1 pa.2.2) H → wP E 2 (off g 3) (elF E (off g 3) le2 ro2) H → rcT E (off g 5) ((z.2.2.2 i).1) q H → stP E (off g 8) z.1 z.2.1 z.2.2.1 z.2.2.2 H → wP E 2 (off g 20) (hiF E (off g 20) ol ke) H → hiS E (off g 20) zs H → va_S (wF 94 g) s.heap H locs → lv_has ls 5 [(4, .int (nI tk)), (0, .ref ((g 0))), (1, .ref ((off g 8 (3 + 3 * i)))), (2, .int (nI fr)), (3, .int ((bI eb)))] → W p l e (headSpec wsX5_mixesNeeded ({ frames := 5, cells := 0, slots := 0, locals := 126 })).room s m ([.ref ((g 0)), .ref ((off g 8 (3 + 3 * i))), .int (nI fr), .int ((bI eb))] : List Value).toArray below meth c H locs 0 0 (MQ below (va_Qi (fun (r : Int32) (_ : Unit) => r = ndS z fr eb 100 0 (z.2.2.2 i).2) (fun _ t => MB E g ln bf z ke hs (t.heap)) (wF 94 g)) ([.ref ((g 0)), .ref ((off g 8 (3 + 3 * i))), .int (nI fr), .int ((bI eb))] : List Value).toArray s 0 0 (wF 94 g)) (F0 m 11 ls []) := by
    intro k
    induction k with
    | zero =>
      intro tk q le2 ro2 H locs ls hi hres hM hPa hEl hTr hN hHi hHs hS hl
      refine lv_iload hx hb dX5_mixesNeeded_11 (lv_at hl 0 rfl) ?_
      refine lv_bipush (v := 100) hx hb dX5_mixesNeeded_13 (by decide) ?_
      refine lv_icmp_ge (tgt := 76) hx hb dX5_mixesNeeded_15 (by decide) (fun c_2 => ?_) (fun c_2 => ?_)
      · have n_2 : 100 ≤ tk := (nI_leI (a := 100) (b := tk) (by omega) (by omega)).mp c_2
        refine lv_aload_n hx hb dX5_mixesNeeded_76 rfl (lv_at hl 1 rfl) ?_
        refine w_get (C := RX5) (T := TX5) (N := 7) (ci := 5) (v := .ref ((g 8))) hx hb hts hin5 hown hK hM 0 (by decide) rfl rfl 0 (by decide) (hts (.fieldLink RX5 12 "MixedBlocks" "now" "LMixedBlocks$State;") (List.mem_of_getElem? (i := 2) rfl)) (fun _ h9 => h9) rfl dX5_mixesNeeded_77 ?_
        refine lv_aload_n hx hb dX5_mixesNeeded_80 rfl (lv_at hl 1 rfl) ?_
        refine w_get (C := RX5) (T := TX5) (N := 7) (ci := 5) (v := .ref ((g 5))) hx hb hts hin5 hown hK hM 0 (by decide) rfl rfl 5 (by decide) (hts (.fieldLink RX5 41 "MixedBlocks" "trial" "LMixedBlocks$Receiver;") (List.mem_of_getElem? (i := 1) rfl)) (fun _ h9 => h9) rfl dX5_mixesNeeded_81 ?_
        obtain ⟨_, _, _, hTP⟩ := id hTr
        refine va_calli (va_runV (As := [.ref ((g 5))]) (rest := []) ⟨hx, hb, hml, hown, hts⟩ (c_X4_isDone l E (off g 8) (off g 5) z.1 z.2.1 z.2.2.1 (z.2.2.2 i).1 q (off_I hI (by decide))) (cwV 1 hts gX5_mixesNeeded_X4_isDone rfl rfl rfl (by decide +kernel) ⟨Nat.le_of_ble_eq_true rfl, Nat.le_of_ble_eq_true rfl⟩) ⟨wS.blind, (w_recv hK hN.1 0 (by decide) rfl (ci := 4) rfl), fun U hU hW => wS.go ⟨hN.1, hTr⟩ hK wI0 hU hW⟩ rfl rfl hl.1 rfl (lv_room (Nat.le_of_ble_eq_true rfl)) dX5_mixesNeeded_84 ⟨Nat.zero_le _, Nat.zero_le _⟩) hS (fun q _ h => h.elim) (fun q h => h.elim) (fun r_3 uu t H_3 locs_3 ht hvm hw hB hz1 hk1 hS => ?_)
        have hM := hM.same hk1
        have hPa := hPa.same hk1
        have hEl := hEl.same hk1
        have hTr := hTr.same hk1
        have hN := hN.same hk1
        have hHi := hHi.same hk1
        have hHs := hHs.same hk1
        obtain rfl : r_3 = (if swar q.1 = nI z.1 then (1 : Int32) else 0) := hw
        rw [show (if swar q.1 = nI z.1 then (1 : Int32) else 0) = bI (isDnQ z.1 q) from isDnQ_I]
        refine lv_if_eq (tgt := 95) hx hb dX5_mixesNeeded_87 (by decide) (fun c_4 => ?_) (fun c_4 => ?_)
        · refine lv_iconst (v := (-1)) hx hb dX5_mixesNeeded_95 (by decide) ?_
          exact W.iret (v := (-1)) hx hb hr (fun t ht hW => ⟨⟨_, (), rfl, (by show _ = _; rw [← hres, ndS, bI_0 c_4]; rfl), (by show MB E g ln bf z ke hs t.heap; rw [ht]; exact ⟨ol, zs, ⟨hol, hke, hzs, hln, hnb2, hnb⟩, hM, ⟨⟨(pa.1, pa.2.1, pa.2.2), hPa⟩, ⟨(le2, ro2), hEl⟩, ⟨(z.2.2.2 i).1, q, hTr⟩⟩, hN, hHi, hHs⟩)⟩, hS.F ht⟩) hS.2.2 dX5_mixesNeeded_96
        · refine lv_bipush (v := 100) hx hb dX5_mixesNeeded_90 (by decide) ?_
          refine lv_goto (tgt := 96) hx hb dX5_mixesNeeded_92 (by decide) ?_
          exact W.iret (v := 100) hx hb hr (fun t ht hW => ⟨⟨_, (), rfl, (by show _ = _; rw [← hres, ndS, bI_1 c_4]; rfl), (by show MB E g ln bf z ke hs t.heap; rw [ht]; exact ⟨ol, zs, ⟨hol, hke, hzs, hln, hnb2, hnb⟩, hM, ⟨⟨(pa.1, pa.2.1, pa.2.2), hPa⟩, ⟨(le2, ro2), hEl⟩, ⟨(z.2.2.2 i).1, q, hTr⟩⟩, hN, hHi, hHs⟩)⟩, hS.F ht⟩) hS.2.2 dX5_mixesNeeded_96
      · have n_2 : ¬ 100 ≤ tk := fun z => c_2 ((nI_leI (a := 100) (b := tk) (by omega) (by omega)).mpr z)
        exfalso
        omega
    | succ k ih =>
      intro tk q le2 ro2 H locs ls hi hres hM hPa hEl hTr hN hHi hHs hS hl
      refine lv_iload hx hb dX5_mixesNeeded_11 (lv_at hl 0 rfl) ?_
      refine lv_bipush (v := 100) hx hb dX5_mixesNeeded_13 (by decide) ?_
      refine lv_icmp_ge (tgt := 76) hx hb dX5_mixesNeeded_15 (by decide) (fun c_5 => ?_) (fun c_5 => ?_)
      · have n_5 : 100 ≤ tk := (nI_leI (a := 100) (b := tk) (by omega) (by omega)).mp c_5
        exfalso
        omega
      · have n_5 : ¬ 100 ≤ tk := fun z => c_5 ((nI_leI (a := 100) (b := tk) (by omega) (by omega)).mpr z)
        refine lv_aload_n hx hb dX5_mixesNeeded_18 rfl (lv_at hl 1 rfl) ?_
        refine w_get (C := RX5) (T := TX5) (N := 7) (ci := 5) (v := .ref ((g 8))) hx hb hts hin5 hown hK hM 0 (by decide) rfl rfl 0 (by decide) (hts (.fieldLink RX5 12 "MixedBlocks" "now" "LMixedBlocks$State;") (List.mem_of_getElem? (i := 2) rfl)) (fun _ h9 => h9) rfl dX5_mixesNeeded_19 ?_
        refine lv_aload_n hx hb dX5_mixesNeeded_22 rfl (lv_at hl 1 rfl) ?_
        refine w_get (C := RX5) (T := TX5) (N := 7) (ci := 5) (v := .ref ((g 5))) hx hb hts hin5 hown hK hM 0 (by decide) rfl rfl 5 (by decide) (hts (.fieldLink RX5 41 "MixedBlocks" "trial" "LMixedBlocks$Receiver;") (List.mem_of_getElem? (i := 1) rfl)) (fun _ h9 => h9) rfl dX5_mixesNeeded_23 ?_
        obtain ⟨_, _, _, hTP⟩ := id hTr
        refine va_calli (va_runV (As := [.ref ((g 5))]) (rest := []) ⟨hx, hb, hml, hown, hts⟩ (c_X4_isDone l E (off g 8) (off g 5) z.1 z.2.1 z.2.2.1 (z.2.2.2 i).1 q (off_I hI (by decide))) (cwV 1 hts gX5_mixesNeeded_X4_isDone rfl rfl rfl (by decide +kernel) ⟨Nat.le_of_ble_eq_true rfl, Nat.le_of_ble_eq_true rfl⟩) ⟨wS.blind, (w_recv hK hN.1 0 (by decide) rfl (ci := 4) rfl), fun U hU hW => wS.go ⟨hN.1, hTr⟩ hK wI0 hU hW⟩ rfl rfl hl.1 rfl (lv_room (Nat.le_of_ble_eq_true rfl)) dX5_mixesNeeded_26 ⟨Nat.zero_le _, Nat.zero_le _⟩) hS (fun q _ h => h.elim) (fun q h => h.elim) (fun r_6 uu t H_6 locs_6 ht hvm hw hB hz1 hk1 hS => ?_)
        have hM := hM.same hk1
        have hPa := hPa.same hk1
        have hEl := hEl.same hk1
        have hTr := hTr.same hk1
        have hN := hN.same hk1
        have hHi := hHi.same hk1
        have hHs := hHs.same hk1
        obtain rfl : r_6 = (if swar q.1 = nI z.1 then (1 : Int32) else 0) := hw
        rw [show (if swar q.1 = nI z.1 then (1 : Int32) else 0) = bI (isDnQ z.1 q) from isDnQ_I]
        refine lv_if_eq (tgt := 35) hx hb dX5_mixesNeeded_29 (by decide) (fun c_7 => ?_) (fun c_7 => ?_)
        · refine lv_aload_n hx hb dX5_mixesNeeded_35 rfl (lv_at hl 1 rfl) ?_
          refine w_get (C := RX5) (T := TX5) (N := 7) (ci := 5) (v := .ref ((g 5))) hx hb hts hin5 hown hK hM 0 (by decide) rfl rfl 5 (by decide) (hts (.fieldLink RX5 41 "MixedBlocks" "trial" "LMixedBlocks$Receiver;") (List.mem_of_getElem? (i := 1) rfl)) (fun _ h9 => h9) rfl dX5_mixesNeeded_36 ?_
          refine lv_aload_n hx hb dX5_mixesNeeded_39 rfl (lv_at hl 1 rfl) ?_
          refine w_get (C := RX5) (T := TX5) (N := 7) (ci := 5) (v := .ref ((g 8))) hx hb hts hin5 hown hK hM 0 (by decide) rfl rfl 0 (by decide) (hts (.fieldLink RX5 12 "MixedBlocks" "now" "LMixedBlocks$State;") (List.mem_of_getElem? (i := 2) rfl)) (fun _ h9 => h9) rfl dX5_mixesNeeded_40 ?_
          refine lv_iload_n hx hb dX5_mixesNeeded_43 rfl (lv_at hl 3 rfl) ?_
          refine lv_iload hx hb dX5_mixesNeeded_44 (lv_at hl 0 rfl) ?_
          refine lv_iadd hx hb dX5_mixesNeeded_46 ?_
          rw [show (nI fr) + (nI tk) = nI (fr + tk) from nI_add _ _]
          refine va_calli (va_runV (As := [.int (nI (fr + tk))]) (rest := [.ref ((g 5))]) ⟨hx, hb, hml, hown, hts⟩ (c_X4_mixOf l E (off g 8) z.1 z.2.1 z.2.2.1 z.2.2.2 (fr + tk) (by omega) hnb2 hnb) (cwV 1 hts gX5_mixesNeeded_X4_mixOf rfl rfl rfl (by decide +kernel) ⟨Nat.le_of_ble_eq_true rfl, Nat.le_of_ble_eq_true rfl⟩) ⟨wSd.blind, (w_recv hK hN.1 0 (by decide) rfl (ci := 4) rfl), fun U hU hW => wSd.go hN hK (off_I hI (by decide)) hdg hS (fun q h => h.elim) hU hW⟩ rfl rfl hl.1 rfl (lv_room (Nat.le_of_ble_eq_true rfl)) dX5_mixesNeeded_47 ⟨Nat.zero_le _, Nat.zero_le _⟩) hS (fun q _ h => h.elim) (fun q h => h.elim) (fun r_8 uu t H_8 locs_8 ht hvm hw hB hz1 hk1 hS => ?_)
          have hM := hM.same hk1
          have hPa := hPa.same hk1
          have hEl := hEl.same hk1
          have hTr := hTr.same hk1
          have hN := hN.same hk1
          have hHi := hHi.same hk1
          have hHs := hHs.same hk1
          obtain rfl : r_8 = (mixS z.1 z.2.1 (fr + tk)) := hw
          obtain ⟨_, _, _, hTP⟩ := id hTr
          refine va_calli (va_runV (As := [.int ((mixS z.1 z.2.1 (fr + tk)))]) (rest := []) ⟨hx, hb, hml, hown, hts⟩ (c_X3_get l E (off g 5) (z.2.2.2 i).1 q.1 q.2.1 q.2.2.1 q.2.2.2.1 q.2.2.2.2.1 q.2.2.2.2.2 (mixS z.1 z.2.1 (fr + tk))) (cwV 1 hts gX5_mixesNeeded_X3_get rfl rfl rfl (by decide +kernel) ⟨Nat.le_of_ble_eq_true rfl, Nat.le_of_ble_eq_true rfl⟩) ⟨wS.blind, (w_recv hK hTP 0 (by decide) rfl (ci := 3) rfl), fun U hU hW => wS.go hTr hK (off_I hI (by decide)) hU hW⟩ rfl rfl hl.1 rfl (lv_room (Nat.le_of_ble_eq_true rfl)) dX5_mixesNeeded_50 ⟨Nat.zero_le _, Nat.zero_le _⟩) hS (fun q _ h => (off_in (o := 5) (n := 3) (by decide)) q h) (off_in (o := 5) (n := 3) (by decide)) (fun r_9 uu t H_9 locs_9 ht hvm hw hB hz1 hk1 hS => ?_)
          rw [ht] at hB
          have hTr : rcT E (off g 5) (z.2.2.2 i).1 (getS (mixS z.1 z.2.1 (fr + tk)) q).2 H_9 := hB
          have hM := hM.other hk1 (off_M hI (by decide) (by decide)).out
          have hPa := hPa.other hk1 (off_X hI (by decide) (by decide) (by decide)).out
          have hEl := hEl.other hk1 (off_X hI (by decide) (by decide) (by decide)).out
          have hN := hN.other hk1 (off_X hI (by decide) (by decide) (by decide)).out
          have hHi := hHi.other hk1 (off_X hI (by decide) (by decide) (by decide)).out
          have hHs := hHs.other hk1 (off_X hI (by decide) (by decide) (by decide)).out
          obtain rfl : r_9 = (getS (mixS z.1 z.2.1 (fr + tk)) q).1 := hw
          refine lv_pop hx hb dX5_mixesNeeded_53 rfl ?_
          refine lv_iload_n hx hb dX5_mixesNeeded_54 rfl (lv_at hl 4 rfl) ?_
          refine lv_if_eq (tgt := 70) hx hb dX5_mixesNeeded_55 (by decide) (fun c_10 => ?_) (fun c_10 => ?_)
          · refine lv_iinc (v := (nI (tk + 1))) (lv' := [(4, .int (nI (tk + 1))), (0, .ref ((g 0))), (1, .ref ((off g 8 (3 + 3 * i)))), (2, .int (nI fr)), (3, .int ((bI eb)))]) hx hb dX5_mixesNeeded_70 hl (k := 0) rfl (nI_1 _) (by decide) rfl (fun ls hl => ?_)
            refine lv_goto (tgt := 11) hx hb dX5_mixesNeeded_73 (by decide) ?_
            have hst : stepQ z fr eb tk q = (getS (mixS z.1 z.2.1 (fr + tk)) q).2 := by rw [stepQ, bI_0 c_10]; rfl
            have hres2 : ndS z fr eb k (tk + 1) (getS (mixS z.1 z.2.1 (fr + tk)) q).2 = ndS z fr eb 100 0 (z.2.2.2 i).2 := by rw [← hres, ndS, bI_0 c_7, hst]; rfl
            exact ih (tk + 1) (getS (mixS z.1 z.2.1 (fr + tk)) q).2 le2 ro2 _ _ ls (by omega) hres2 hM hPa hEl hTr hN hHi hHs hS (lv_sub hl [0, 1, 2, 3, 4] rfl)
          · refine lv_aload_n hx hb dX5_mixesNeeded_58 rfl (lv_at hl 1 rfl) ?_
            refine w_get (C := RX5) (T := TX5) (N := 7) (ci := 5) (v := .ref ((g 5))) hx hb hts hin5 hown hK hM 0 (by decide) rfl rfl 5 (by decide) (hts (.fieldLink RX5 41 "MixedBlocks" "trial" "LMixedBlocks$Receiver;") (List.mem_of_getElem? (i := 1) rfl)) (fun _ h9 => h9) rfl dX5_mixesNeeded_59 ?_
            refine lv_aload_n hx hb dX5_mixesNeeded_62 rfl (lv_at hl 1 rfl) ?_
            refine w_get (C := RX5) (T := TX5) (N := 7) (ci := 5) (v := .ref ((g 3))) hx hb hts hin5 hown hK hM 0 (by decide) rfl rfl 6 (by decide) (hts (.fieldLink RX5 48 "MixedBlocks" "elimination" "LMixedBlocks$Elimination;") (List.mem_of_getElem? (i := 3) rfl)) (fun _ h9 => h9) rfl dX5_mixesNeeded_63 ?_
            obtain ⟨_, _, _, hTP⟩ := id hTr
            refine va_calli (va_runV (As := [.ref ((g 3))]) (rest := []) ⟨hx, hb, hml, hown, hts⟩ (c_X3_findTogether l E (off g 5) (z.2.2.2 i).1 ((getS (mixS z.1 z.2.1 (fr + tk)) q).2).1 ((getS (mixS z.1 z.2.1 (fr + tk)) q).2).2.1 ((getS (mixS z.1 z.2.1 (fr + tk)) q).2).2.2.1 ((getS (mixS z.1 z.2.1 (fr + tk)) q).2).2.2.2.1 ((getS (mixS z.1 z.2.1 (fr + tk)) q).2).2.2.2.2.1 ((getS (mixS z.1 z.2.1 (fr + tk)) q).2).2.2.2.2.2 (off g 3) le2 ro2 (off_I hI (by decide)) (off_I hI (by decide)) (off_X hI (by decide) (by decide) (by decide))) (cwV 1 hts gX5_mixesNeeded_X3_findTogether rfl rfl rfl (by decide +kernel) ⟨Nat.le_of_ble_eq_true rfl, Nat.le_of_ble_eq_true rfl⟩) ⟨wS.blind, (w_recv hK hTP 0 (by decide) rfl (ci := 3) rfl), fun U hU hW => wS.go ⟨hTr, hEl⟩ hK wI0 hU hW⟩ rfl rfl hl.1 rfl (lv_room (Nat.le_of_ble_eq_true rfl)) dX5_mixesNeeded_66 ⟨Nat.zero_le _, Nat.zero_le _⟩) hS (fun q _ h => (off_in2 (o := 5) (n := 3) (o2 := 3) (n2 := 2) (by decide) (by decide)) q h) (off_in2 (o := 5) (n := 3) (o2 := 3) (n2 := 2) (by decide) (by decide)) (fun r_11 uu t H_11 locs_11 ht hvm hw hB hz1 hk1 hS => ?_)
            rw [ht] at hB
            have hTr : rcT E (off g 5) (z.2.2.2 i).1 (elimQ ((getS (mixS z.1 z.2.1 (fr + tk)) q).2)) H_11 := hB.1
            have hEl : wP E 2 (off g 3) (elF E (off g 3) (lookS ((getS (mixS z.1 z.2.1 (fr + tk)) q).2).2.2.1).1 (lookS ((getS (mixS z.1 z.2.1 (fr + tk)) q).2).2.2.1).2) H_11 := hB.2
            have hM := hM.other hk1 ((off_M hI (by decide) (by decide)).out2 (off_M hI (by decide) (by decide)))
            have hPa := hPa.other hk1 ((off_X hI (by decide) (by decide) (by decide)).out2 (off_X hI (by decide) (by decide) (by decide)))
            have hN := hN.other hk1 ((off_X hI (by decide) (by decide) (by decide)).out2 (off_X hI (by decide) (by decide) (by decide)))
            have hHi := hHi.other hk1 ((off_X hI (by decide) (by decide) (by decide)).out2 (off_X hI (by decide) (by decide) (by decide)))
            have hHs := hHs.other hk1 ((off_X hI (by decide) (by decide) (by decide)).out2 (off_X hI (by decide) (by decide) (by decide)))
            obtain rfl : r_11 = (findS ((getS (mixS z.1 z.2.1 (fr + tk)) q).2)).2.2.2.2 := hw
            refine lv_pop hx hb dX5_mixesNeeded_69 rfl ?_
            refine lv_iinc (v := (nI (tk + 1))) (lv' := [(4, .int (nI (tk + 1))), (0, .ref ((g 0))), (1, .ref ((off g 8 (3 + 3 * i)))), (2, .int (nI fr)), (3, .int ((bI eb)))]) hx hb dX5_mixesNeeded_70 hl (k := 0) rfl (nI_1 _) (by decide) rfl (fun ls hl => ?_)
            refine lv_goto (tgt := 11) hx hb dX5_mixesNeeded_73 (by decide) ?_
            have hst : stepQ z fr eb tk q = (elimQ ((getS (mixS z.1 z.2.1 (fr + tk)) q).2)) := by rw [stepQ, bI_1 c_10]; rfl
            have hres2 : ndS z fr eb k (tk + 1) (elimQ ((getS (mixS z.1 z.2.1 (fr + tk)) q).2)) = ndS z fr eb 100 0 (z.2.2.2 i).2 := by rw [← hres, ndS, bI_0 c_7, hst]; rfl
            exact ih (tk + 1) (elimQ ((getS (mixS z.1 z.2.1 (fr + tk)) q).2)) (lookS ((getS (mixS z.1 z.2.1 (fr + tk)) q).2).2.2.1).1 (lookS ((getS (mixS z.1 z.2.1 (fr + tk)) q).2).2.2.1).2 _ _ ls (by omega) hres2 hM hPa hEl hTr hN hHi hHs hS (lv_sub hl [0, 1, 2, 3, 4] rfl)
        · refine lv_iload hx hb dX5_mixesNeeded_32 (lv_at hl 0 rfl) ?_
          exact W.iret (v := (nI tk)) hx hb hr (fun t ht hW => ⟨⟨_, (), rfl, (by show _ = _; rw [← hres, ndS, bI_1 c_7]; rfl), (by show MB E g ln bf z ke hs t.heap; rw [ht]; exact ⟨ol, zs, ⟨hol, hke, hzs, hln, hnb2, hnb⟩, hM, ⟨⟨(pa.1, pa.2.1, pa.2.2), hPa⟩, ⟨(le2, ro2), hEl⟩, ⟨(z.2.2.2 i).1, q, hTr⟩⟩, hN, hHi, hHs⟩)⟩, hS.F ht⟩) hS.2.2 dX5_mixesNeeded_34
  exact L11 100 0 (z.2.2.2 i).2 el.1 el.2 _ _ ls rfl rfl hM hPa hEl hTr hN hHi hHs hS (lv_sub hl [0, 1, 2, 3, 4] rfl)
