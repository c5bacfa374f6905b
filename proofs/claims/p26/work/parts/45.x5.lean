set_option maxHeartbeats 4000000 in
set_option maxRecDepth 100000 in
theorem c_X5_undo (l : Launch) (hst : l.stackTraces = false) (E : wE) (g : Nat → Nat) (ln : Nat) (bf : Nat → Int32) (z : SS) (ke : Nat) (hs : Nat → SS) : vx_Met l yX5_undo wsX5_undo ({ frames := 6, cells := 1, slots := 6, locals := 150 }) (va_Pc [.ref ((g 0))] (wSx E 94 g (wF 94 g) (MB E g ln bf z ke hs))) (va_Qi (fun (r : Int32) (_ : Unit) => r = nI (ke - 1)) (fun _ t => 0 < ke ∧ MB E g ln bf (hs (ke - 1)) (ke - 1) hs (t.heap)) (wF 94 g)) (vx_X (S := Unit) (fun _ => True) (fun Ex _ t => (Ex = "java/lang/IllegalStateException" ∧ ¬ 0 < ke) ∧ MB E g ln bf z ke hs (t.heap)) (wF 94 g)) 1 6 (wF 94 g) := by
  refine vx_ofW (cc := cX5_undo) (maxL := 1) (ret := (some .int)) (by decide) rfl ?_
  intro p e s m args below meth c s₁ B hml hno hv
  obtain ⟨rfl, ⟨ol, zs, ⟨hol, hke, hzs, hln, hnb2, hnb⟩, hM, ⟨⟨pa, hPa⟩, ⟨el, hEl⟩, ⟨tli, tq, hTr⟩⟩, hN, hHi, hHs⟩, hK, hI, hxe⟩ := hv
  have hx := B.exec
  have hb := B.bytes
  have hr := B.returns
  have hts := atoms_spec (ws := wsX5_undo) B.pre
  have hown : s.vm.findClass RX5 = some m.cls := findClass_of_methodNamed B.named
  have hlocks := B.notSynchronized
  have hS : va_S (wF 94 g) s.heap s.heap [] := va_S.rf
  have hin1 : ∀ w ∈ wsX10, w ∈ wsX5_undo := by decide +kernel
  have hin5 : ∀ w ∈ wsX50, w ∈ wsX5_undo := by decide +kernel
  have hl := lv_entry ([.ref ((g 0))]) (n := 1) (Nat.le_of_ble_eq_true rfl)
  rw [lg_entry_eq]
  generalize (lg_sl ([.ref ((g 0))]) ++ List.replicate (1 - (lg_sl ([.ref ((g 0))])).length) Slot.unset).toArray = ls at hl ⊢
  have hl : lv_has ls 1 [(0, .ref ((g 0)))] := hl
  have hN : stP E (off g 8) z.1 z.2.1 z.2.2.1 z.2.2.2 s.heap := hN
  refine lv_aload_n hx hb dX5_undo_0 rfl (lv_at hl 0 rfl) ?_
  refine w_get (C := RX5) (T := TX5) (N := 7) (ci := 5) (v := .ref ((g 20))) hx hb hts hin5 hown hK hM 0 (by decide) rfl rfl 1 (by decide) (hts (.fieldLink RX5 19 "MixedBlocks" "history" "LMixedBlocks$History;") (List.mem_of_getElem? (i := 3) rfl)) (fun _ h9 => h9) rfl dX5_undo_1 ?_
  refine lv_aload_n hx hb dX5_undo_4 rfl (lv_at hl 0 rfl) ?_
  refine w_get (C := RX5) (T := TX5) (N := 7) (ci := 5) (v := .ref ((g 8))) hx hb hts hin5 hown hK hM 0 (by decide) rfl rfl 0 (by decide) (hts (.fieldLink RX5 12 "MixedBlocks" "now" "LMixedBlocks$State;") (List.mem_of_getElem? (i := 4) rfl)) (fun _ h9 => h9) rfl dX5_undo_5 ?_
  refine va_calli (va_runV (As := [.ref ((g 8))]) (rest := []) ⟨hx, hb, hml, hown, hts⟩ (c_X1_giveBack l E (off g 20) ol ke zs (off g 8) z.1 z.2.1 z.2.2.1 z.2.2.2 (off_I hI (by decide)) (off_I hI (by decide)) (off_X hI (by decide) (by decide) (by decide)) hol hke) (cwV 1 hts gX5_undo_X1_giveBack rfl rfl rfl (by decide +kernel) ⟨Nat.le_of_ble_eq_true rfl, Nat.le_of_ble_eq_true rfl⟩) ⟨wS.blind, (w_recv hK hHi 0 (by decide) rfl (ci := 1) rfl), fun U hU hW => wS.go ⟨hHi, hHs, hN⟩ hK wI0 hU hW⟩ rfl rfl hl.1 rfl (lv_room (Nat.le_of_ble_eq_true rfl)) dX5_undo_8 ⟨Nat.le_of_ble_eq_true rfl, Nat.le_of_ble_eq_true rfl⟩) hS (fun q _ h => (off_in2 (o := 20) (n := 74) (o2 := 8) (n2 := 12) (by decide) (by decide)) q h) (off_in2 (o := 20) (n := 74) (o2 := 8) (n2 := 12) (by decide) (by decide)) (fun r_1 uu t H_1 locs_1 ht hvm hw hB hz1 hk1 hS => ?_)
  rw [ht] at hB
  have hM := hM.other hk1 ((off_M hI (by decide) (by decide)).out2 (off_M hI (by decide) (by decide)))
  have hPa := hPa.other hk1 ((off_X hI (by decide) (by decide) (by decide)).out2 (off_X hI (by decide) (by decide) (by decide)))
  have hEl := hEl.other hk1 ((off_X hI (by decide) (by decide) (by decide)).out2 (off_X hI (by decide) (by decide) (by decide)))
  have hTr := hTr.other hk1 ((off_X hI (by decide) (by decide) (by decide)).out2 (off_X hI (by decide) (by decide) (by decide)))
  obtain rfl : r_1 = (bI (decide (0 < ke))) := hw
  by_cases h0 : 0 < ke
  · rw [if_pos h0] at hB
    obtain ⟨hHi, hHs, hN⟩ := hB
    rw [show bI (decide (0 < ke)) = 1 from by rw [decide_eq_true h0]; rfl]
    obtain ⟨he9, hb9, hb10⟩ := hzs (ke - 1) (by omega)
    rw [he9] at hN
    have hN : stP E (off g 8) (hs (ke - 1)).1 (hs (ke - 1)).2.1 (hs (ke - 1)).2.2.1 (hs (ke - 1)).2.2.2 _ := hN
    refine lv_if_ne (tgt := 24) hx hb dX5_undo_11 (by decide) (fun c_2 => ?_) (fun c_2 => ?_)
    · refine lv_aload_n hx hb dX5_undo_24 rfl (lv_at hl 0 rfl) ?_
      refine w_get (C := RX5) (T := TX5) (N := 7) (ci := 5) (v := .ref ((g 20))) hx hb hts hin5 hown hK hM 0 (by decide) rfl rfl 1 (by decide) (hts (.fieldLink RX5 19 "MixedBlocks" "history" "LMixedBlocks$History;") (List.mem_of_getElem? (i := 3) rfl)) (fun _ h9 => h9) rfl dX5_undo_25 ?_
      refine w_getN (C := RX1) (T := TX1) (N := 3) (ci := 1) (v := .int (nI (ke - 1))) hx hb hts hin1 hown hK hHi 0 (by decide) rfl rfl 2 (by decide) nf_X5_138 (fun _ h9 => h9) rfl dX5_undo_28 ?_
      refine vx_ret ?_
      refine W.widen (k := 1) (n := 6) (Nat.le_of_ble_eq_true rfl) (Nat.le_of_ble_eq_true rfl) ?_
      exact W.iret (v := (nI (ke - 1))) hx hb hr (fun t ht hW => ⟨⟨_, (), rfl, rfl, (by show 0 < ke ∧ MB E g ln bf (hs (ke - 1)) (ke - 1) hs t.heap; rw [ht]; exact ⟨h0, ⟨ol, zs, ⟨hol, by omega, (fun j hj => hzs j (by omega)), hln, hb9, hb10⟩, hM, ⟨⟨(pa.1, pa.2.1, pa.2.2), hPa⟩, ⟨(el.1, el.2), hEl⟩, ⟨tli, tq, hTr⟩⟩, hN, hHi, hHs⟩⟩)⟩, hS.F ht⟩) hS.2.2 dX5_undo_31
    · exact absurd c_2 (by decide)
  · rw [if_neg h0] at hB
    obtain ⟨hHi, hHs, hN⟩ := hB
    rw [show bI (decide (0 < ke)) = 0 from by rw [decide_eq_false h0]; rfl]
    refine lv_if_ne (tgt := 24) hx hb dX5_undo_11 (by decide) (fun c_3 => ?_) (fun c_3 => ?_)
    · exact absurd rfl c_3
    · exact w_throw hx hb hst hown (by decide +kernel) (hts (.classLink RX5 111 "java/lang/IllegalStateException") (List.mem_of_getElem? (i := 1) rfl)) (hts (.initialized "java/lang/IllegalStateException") (List.mem_of_getElem? (i := 2) rfl)) (List.mem_of_getElem? (i := 5) rfl) (fun w h => hts w (List.mem_cons_of_mem _ (List.mem_append_right _ h))) xb115 xo115 hxe hS (hl.1.trans hml.symm) dX5_undo_14 dX5_undo_17 dX5_undo_18 dX5_undo_20 dX5_undo_23 hno (Nat.le_of_ble_eq_true rfl) (Nat.le_of_ble_eq_true rfl) (Nat.le_of_ble_eq_true rfl) (Nat.le_of_ble_eq_true rfl) hlocks (fun t h1 h2 => ⟨(), trivial, ⟨⟨rfl, h0⟩, MB.new ⟨ol, zs, ⟨hol, hke, hzs, hln, hnb2, hnb⟩, hM, ⟨⟨(pa.1, pa.2.1, pa.2.2), hPa⟩, ⟨(el.1, el.2), hEl⟩, ⟨tli, tq, hTr⟩⟩, hN, hHi, hHs⟩ h1⟩, h2⟩) hS.2.2 (Nat.le_of_ble_eq_true rfl) (Nat.le_of_ble_eq_true rfl)
set_option maxHeartbeats 4000000 in
set_option maxRecDepth 100000 in
theorem c_X5_numberOf (l : Launch) (E : wE) (g : Nat → Nat) (ln : Nat) (bf : Nat → Int32) (z : SS) (ke : Nat) (hs : Nat → SS) (i : Nat) (hi3 : i < 3) (j : Nat) (hj9 : j < 9) : Met l yX5_numberOf wsX5_numberOf ({ frames := 5, cells := 0, slots := 0, locals := 107 }) (va_Pc [.ref ((g 0)), .ref ((off g 8 (3 + 3 * i))), .int (nI j)] (wS E 94 g (MB E g ln bf z ke hs))) (va_Qi (fun (r : Int32) (_ : Unit) => r = numF z.1 (z.2.2.2 i) j) (fun _ t => MB E g ln bf z ke hs (t.heap)) (wF 94 g)) 0 0 (wF 94 g) := by
  refine Met.ofW (cc := cX5_numberOf) (maxL := 3) (ret := (some .int)) (by decide) rfl ?_
  intro p e s m args below meth c s₁ B hml hv
  obtain ⟨rfl, ⟨ol, zs, ⟨hol, hke, hzs, hln, hnb2, hnb⟩, hM, ⟨⟨pa, hPa⟩, ⟨el, hEl⟩, ⟨tli, tq, hTr⟩⟩, hN, hHi, hHs⟩, hK, hI⟩ := hv
  have hx := B.exec
  have hb := B.bytes
  have hr := B.returns
  have hts := atoms_spec (ws := wsX5_numberOf) B.pre
  have hown : s.vm.findClass RX5 = some m.cls := findClass_of_methodNamed B.named
  have hlocks := B.notSynchronized
  have hS : va_S (wF 94 g) s.heap s.heap [] := va_S.rf
  have hin3 : ∀ w ∈ wsX30, w ∈ wsX5_numberOf := by decide +kernel
  have hin5 : ∀ w ∈ wsX50, w ∈ wsX5_numberOf := by decide +kernel
  have hA : ∀ k, k < 94 → (wF 94 g) (g k) := wF_in
  have hl := lv_entry ([.ref ((g 0)), .ref ((off g 8 (3 + 3 * i))), .int (nI j)]) (n := 3) (Nat.le_of_ble_eq_true rfl)
  rw [lg_entry_eq]
  generalize (lg_sl ([.ref ((g 0)), .ref ((off g 8 (3 + 3 * i))), .int (nI j)]) ++ List.replicate (3 - (lg_sl ([.ref ((g 0)), .ref ((off g 8 (3 + 3 * i))), .int (nI j)])).length) Slot.unset).toArray = ls at hl ⊢
  have hl : lv_has ls 3 [(0, .ref ((g 0))), (1, .ref ((off g 8 (3 + 3 * i)))), (2, .int (nI j))] := hl
  have hN : stP E (off g 8) z.1 z.2.1 z.2.2.1 z.2.2.2 s.heap := hN
  have hRi := hN.2 i hi3
  obtain ⟨hlnI, lfI, hlfI, hPI⟩ := id hRi
  refine lv_iload_n hx hb dX5_numberOf_0 rfl (lv_at hl 2 rfl) ?_
  obtain rfl | rfl | rfl | rfl | rfl | rfl | rfl | rfl | rfl : j = 0 ∨ j = 1 ∨ j = 2 ∨ j = 3 ∨ j = 4 ∨ j = 5 ∨ j = 6 ∨ j = 7 ∨ j = 8 := by omega
  · refine lv_tableIn (off := 47) (tgt := 48) hx hb dX5_numberOf_1 (by decide) (by decide) (by decide +kernel) (by decide) ?_
    refine lv_aload_n hx hb dX5_numberOf_48 rfl (lv_at hl 1 rfl) ?_
    refine w_getN (C := RX3) (T := TX3) (N := 8) (ci := 3) (v := .int ((bI (z.2.2.2 i).1))) hx hb hts hin3 hown hK hPI 0 (by decide) rfl rfl 0 (by decide) nf_X5_88 (fun _ h9 => h9) rfl dX5_numberOf_49 ?_
    refine lv_if_eq (tgt := 59) hx hb dX5_numberOf_52 (by decide) (fun c_1 => ?_) (fun c_1 => ?_)
    · refine lv_iconst (v := 0) hx hb dX5_numberOf_59 (by decide) ?_
      exact W.iret (v := 0) hx hb hr (fun t ht hW => ⟨⟨_, (), rfl, (by show _ = bI ((z.2.2.2 i).1); rw [bI_0 c_1]; rfl), (by show MB E g ln bf z ke hs t.heap; rw [ht]; exact ⟨ol, zs, ⟨hol, hke, hzs, hln, hnb2, hnb⟩, hM, ⟨⟨(pa.1, pa.2.1, pa.2.2), hPa⟩, ⟨(el.1, el.2), hEl⟩, ⟨tli, tq, hTr⟩⟩, hN, hHi, hHs⟩)⟩, hS.F ht⟩) hS.2.2 dX5_numberOf_60
    · refine lv_iconst (v := 1) hx hb dX5_numberOf_55 (by decide) ?_
      refine lv_goto (tgt := 60) hx hb dX5_numberOf_56 (by decide) ?_
      exact W.iret (v := 1) hx hb hr (fun t ht hW => ⟨⟨_, (), rfl, (by show _ = bI ((z.2.2.2 i).1); rw [bI_1 c_1]; rfl), (by show MB E g ln bf z ke hs t.heap; rw [ht]; exact ⟨ol, zs, ⟨hol, hke, hzs, hln, hnb2, hnb⟩, hM, ⟨⟨(pa.1, pa.2.1, pa.2.2), hPa⟩, ⟨(el.1, el.2), hEl⟩, ⟨tli, tq, hTr⟩⟩, hN, hHi, hHs⟩)⟩, hS.F ht⟩) hS.2.2 dX5_numberOf_60
  · refine lv_tableIn (off := 60) (tgt := 61) hx hb dX5_numberOf_1 (by decide) (by decide) (by decide +kernel) (by decide) ?_
    refine lv_aload_n hx hb dX5_numberOf_61 rfl (lv_at hl 1 rfl) ?_
    refine va_calli (va_runV (As := []) (rest := []) ⟨hx, hb, hml, hown, hts⟩ (c_X3_knows l E (rg (off g 8) i) (z.2.2.2 i).1 (z.2.2.2 i).2.1 (z.2.2.2 i).2.2.1 (z.2.2.2 i).2.2.2.1 (z.2.2.2 i).2.2.2.2.1 (z.2.2.2 i).2.2.2.2.2.1 (z.2.2.2 i).2.2.2.2.2.2) (cwV 0 hts gX5_numberOf_X3_knows rfl rfl rfl (by decide +kernel) ⟨Nat.le_of_ble_eq_true rfl, Nat.le_of_ble_eq_true rfl⟩) ⟨wS.blind, (w_recv hK hPI 0 (by decide) rfl (ci := 3) rfl), fun U hU hW => wS.go hRi hK (rg_I (off_I hI (by decide)) (by omega)) hU hW⟩ rfl rfl hl.1 rfl (lv_room (Nat.le_of_ble_eq_true rfl)) dX5_numberOf_62 ⟨Nat.zero_le _, Nat.zero_le _⟩) hS (fun q _ h => h.elim) (fun q h => h.elim) (fun r_2 uu t H_2 locs_2 ht hvm hw hB hz1 hk1 hS => ?_)
    have hM := hM.same hk1
    have hPa := hPa.same hk1
    have hEl := hEl.same hk1
    have hTr := hTr.same hk1
    have hN := hN.same hk1
    have hHi := hHi.same hk1
    have hHs := hHs.same hk1
    have hRi := hRi.same hk1
    obtain rfl : r_2 = (swar (z.2.2.2 i).2.1) := hw
    exact W.iret (v := (swar (z.2.2.2 i).2.1)) hx hb hr (fun t ht hW => ⟨⟨_, (), rfl, rfl, (by show MB E g ln bf z ke hs t.heap; rw [ht]; exact ⟨ol, zs, ⟨hol, hke, hzs, hln, hnb2, hnb⟩, hM, ⟨⟨(pa.1, pa.2.1, pa.2.2), hPa⟩, ⟨(el.1, el.2), hEl⟩, ⟨tli, tq, hTr⟩⟩, hN, hHi, hHs⟩)⟩, hS.F ht⟩) hS.2.2 dX5_numberOf_65
  · refine lv_tableIn (off := 65) (tgt := 66) hx hb dX5_numberOf_1 (by decide) (by decide) (by decide +kernel) (by decide) ?_
    refine lv_aload_n hx hb dX5_numberOf_66 rfl (lv_at hl 1 rfl) ?_
    refine w_getN (C := RX3) (T := TX3) (N := 8) (ci := 3) (v := .int ((z.2.2.2 i).2.1)) hx hb hts hin3 hown hK hPI 0 (by decide) rfl rfl 1 (by decide) nf_X5_253 (fun _ h9 => h9) rfl dX5_numberOf_67 ?_
    exact W.iret (v := ((z.2.2.2 i).2.1)) hx hb hr (fun t ht hW => ⟨⟨_, (), rfl, rfl, (by show MB E g ln bf z ke hs t.heap; rw [ht]; exact ⟨ol, zs, ⟨hol, hke, hzs, hln, hnb2, hnb⟩, hM, ⟨⟨(pa.1, pa.2.1, pa.2.2), hPa⟩, ⟨(el.1, el.2), hEl⟩, ⟨tli, tq, hTr⟩⟩, hN, hHi, hHs⟩)⟩, hS.F ht⟩) hS.2.2 dX5_numberOf_70
  · refine lv_tableIn (off := 70) (tgt := 71) hx hb dX5_numberOf_1 (by decide) (by decide) (by decide +kernel) (by decide) ?_
    refine lv_aload_n hx hb dX5_numberOf_71 rfl (lv_at hl 1 rfl) ?_
    refine w_getN (C := RX3) (T := TX3) (N := 8) (ci := 3) (v := .int (nI (z.2.2.2 i).2.2.2.1.length)) hx hb hts hin3 hown hK hPI 0 (by decide) rfl rfl 4 (by decide) nf_X5_165 (fun _ h9 => h9) rfl dX5_numberOf_72 ?_
    exact W.iret (v := (nI (z.2.2.2 i).2.2.2.1.length)) hx hb hr (fun t ht hW => ⟨⟨_, (), rfl, rfl, (by show MB E g ln bf z ke hs t.heap; rw [ht]; exact ⟨ol, zs, ⟨hol, hke, hzs, hln, hnb2, hnb⟩, hM, ⟨⟨(pa.1, pa.2.1, pa.2.2), hPa⟩, ⟨(el.1, el.2), hEl⟩, ⟨tli, tq, hTr⟩⟩, hN, hHi, hHs⟩)⟩, hS.F ht⟩) hS.2.2 dX5_numberOf_75
  · refine lv_tableIn (off := 75) (tgt := 76) hx hb dX5_numberOf_1 (by decide) (by decide) (by decide +kernel) (by decide) ?_
    refine lv_aload_n hx hb dX5_numberOf_76 rfl (lv_at hl 1 rfl) ?_
    refine w_getN (C := RX3) (T := TX3) (N := 8) (ci := 3) (v := .int ((z.2.2.2 i).2.2.2.2.1)) hx hb hts hin3 hown hK hPI 0 (by decide) rfl rfl 5 (by decide) nf_X5_256 (fun _ h9 => h9) rfl dX5_numberOf_77 ?_
    exact W.iret (v := ((z.2.2.2 i).2.2.2.2.1)) hx hb hr (fun t ht hW => ⟨⟨_, (), rfl, rfl, (by show MB E g ln bf z ke hs t.heap; rw [ht]; exact ⟨ol, zs, ⟨hol, hke, hzs, hln, hnb2, hnb⟩, hM, ⟨⟨(pa.1, pa.2.1, pa.2.2), hPa⟩, ⟨(el.1, el.2), hEl⟩, ⟨tli, tq, hTr⟩⟩, hN, hHi, hHs⟩)⟩, hS.F ht⟩) hS.2.2 dX5_numberOf_80
  · refine lv_tableIn (off := 80) (tgt := 81) hx hb dX5_numberOf_1 (by decide) (by decide) (by decide +kernel) (by decide) ?_
    refine lv_aload_n hx hb dX5_numberOf_81 rfl (lv_at hl 1 rfl) ?_
    refine w_getN (C := RX3) (T := TX3) (N := 8) (ci := 3) (v := .int ((z.2.2.2 i).2.2.2.2.2.1)) hx hb hts hin3 hown hK hPI 0 (by decide) rfl rfl 6 (by decide) nf_X5_259 (fun _ h9 => h9) rfl dX5_numberOf_82 ?_
    exact W.iret (v := ((z.2.2.2 i).2.2.2.2.2.1)) hx hb hr (fun t ht hW => ⟨⟨_, (), rfl, rfl, (by show MB E g ln bf z ke hs t.heap; rw [ht]; exact ⟨ol, zs, ⟨hol, hke, hzs, hln, hnb2, hnb⟩, hM, ⟨⟨(pa.1, pa.2.1, pa.2.2), hPa⟩, ⟨(el.1, el.2), hEl⟩, ⟨tli, tq, hTr⟩⟩, hN, hHi, hHs⟩)⟩, hS.F ht⟩) hS.2.2 dX5_numberOf_85
  · refine lv_tableIn (off := 85) (tgt := 86) hx hb dX5_numberOf_1 (by decide) (by decide) (by decide +kernel) (by decide) ?_
    refine lv_aload_n hx hb dX5_numberOf_86 rfl (lv_at hl 1 rfl) ?_
    refine w_getN (C := RX3) (T := TX3) (N := 8) (ci := 3) (v := .int ((z.2.2.2 i).2.2.2.2.2.2)) hx hb hts hin3 hown hK hPI 0 (by decide) rfl rfl 7 (by decide) nf_X5_262 (fun _ h9 => h9) rfl dX5_numberOf_87 ?_
    exact W.iret (v := ((z.2.2.2 i).2.2.2.2.2.2)) hx hb hr (fun t ht hW => ⟨⟨_, (), rfl, rfl, (by show MB E g ln bf z ke hs t.heap; rw [ht]; exact ⟨ol, zs, ⟨hol, hke, hzs, hln, hnb2, hnb⟩, hM, ⟨⟨(pa.1, pa.2.1, pa.2.2), hPa⟩, ⟨(el.1, el.2), hEl⟩, ⟨tli, tq, hTr⟩⟩, hN, hHi, hHs⟩)⟩, hS.F ht⟩) hS.2.2 dX5_numberOf_90
  · refine lv_tableIn (off := 90) (tgt := 91) hx hb dX5_numberOf_1 (by decide) (by decide) (by decide +kernel) (by decide) ?_
    refine lv_aload_n hx hb dX5_numberOf_91 rfl (lv_at hl 0 rfl) ?_
    refine w_get (C := RX5) (T := TX5) (N := 7) (ci := 5) (v := .ref ((g 8))) hx hb hts hin5 hown hK hM 0 (by decide) rfl rfl 0 (by decide) (hts (.fieldLink RX5 12 "MixedBlocks" "now" "LMixedBlocks$State;") (List.mem_of_getElem? (i := 1) rfl)) (fun _ h9 => h9) rfl dX5_numberOf_92 ?_
    refine lv_aload_n hx hb dX5_numberOf_95 rfl (lv_at hl 1 rfl) ?_
    refine va_calli (va_runV (As := [.ref ((off g 8 (3 + 3 * i)))]) (rest := []) ⟨hx, hb, hml, hown, hts⟩ (c_X4_isDone l E (off g 8) (rg (off g 8) i) z.1 z.2.1 z.2.2.1 (z.2.2.2 i).1 (z.2.2.2 i).2 (rg_I (off_I hI (by decide)) (by omega))) (cwV 1 hts gX5_numberOf_X4_isDone rfl rfl rfl (by decide +kernel) ⟨Nat.le_of_ble_eq_true rfl, Nat.le_of_ble_eq_true rfl⟩) ⟨wS.blind, (w_recv hK hN.1 0 (by decide) rfl (ci := 4) rfl), fun U hU hW => wS.go ⟨hN.1, hRi⟩ hK wI0 hU hW⟩ rfl rfl hl.1 rfl (lv_room (Nat.le_of_ble_eq_true rfl)) dX5_numberOf_96 ⟨Nat.zero_le _, Nat.zero_le _⟩) hS (fun q _ h => h.elim) (fun q h => h.elim) (fun r_3 uu t H_3 locs_3 ht hvm hw hB hz1 hk1 hS => ?_)
    have hM := hM.same hk1
    have hPa := hPa.same hk1
    have hEl := hEl.same hk1
    have hTr := hTr.same hk1
    have hN := hN.same hk1
    have hHi := hHi.same hk1
    have hHs := hHs.same hk1
    obtain rfl : r_3 = (if swar (z.2.2.2 i).2.1 = nI z.1 then (1 : Int32) else 0) := hw
    rw [isDn_I]
    refine lv_if_eq (tgt := 106) hx hb dX5_numberOf_99 (by decide) (fun c_4 => ?_) (fun c_4 => ?_)
    · refine lv_iconst (v := 0) hx hb dX5_numberOf_106 (by decide) ?_
      exact W.iret (v := 0) hx hb hr (fun t ht hW => ⟨⟨_, (), rfl, (by show _ = bI (isDn z.1 (z.2.2.2 i)); rw [bI_0 c_4]; rfl), (by show MB E g ln bf z ke hs t.heap; rw [ht]; exact ⟨ol, zs, ⟨hol, hke, hzs, hln, hnb2, hnb⟩, hM, ⟨⟨(pa.1, pa.2.1, pa.2.2), hPa⟩, ⟨(el.1, el.2), hEl⟩, ⟨tli, tq, hTr⟩⟩, hN, hHi, hHs⟩)⟩, hS.F ht⟩) hS.2.2 dX5_numberOf_107
    · refine lv_iconst (v := 1) hx hb dX5_numberOf_102 (by decide) ?_
      refine lv_goto (tgt := 107) hx hb dX5_numberOf_103 (by decide) ?_
      exact W.iret (v := 1) hx hb hr (fun t ht hW => ⟨⟨_, (), rfl, (by show _ = bI (isDn z.1 (z.2.2.2 i)); rw [bI_1 c_4]; rfl), (by show MB E g ln bf z ke hs t.heap; rw [ht]; exact ⟨ol, zs, ⟨hol, hke, hzs, hln, hnb2, hnb⟩, hM, ⟨⟨(pa.1, pa.2.1, pa.2.2), hPa⟩, ⟨(el.1, el.2), hEl⟩, ⟨tli, tq, hTr⟩⟩, hN, hHi, hHs⟩)⟩, hS.F ht⟩) hS.2.2 dX5_numberOf_107
  · refine lv_tableOut (tgt := 108) hx hb dX5_numberOf_1 (by decide) (by decide) ?_
    refine lv_aload_n hx hb dX5_numberOf_108 rfl (lv_at hl 1 rfl) ?_
    refine lv_aload_n hx hb dX5_numberOf_109 rfl (lv_at hl 0 rfl) ?_
    refine w_get (C := RX5) (T := TX5) (N := 7) (ci := 5) (v := .ref ((g 3))) hx hb hts hin5 hown hK hM 0 (by decide) rfl rfl 6 (by decide) (hts (.fieldLink RX5 48 "MixedBlocks" "elimination" "LMixedBlocks$Elimination;") (List.mem_of_getElem? (i := 2) rfl)) (fun _ h9 => h9) rfl dX5_numberOf_110 ?_
    have hXe : wX 3 (rg (off g 8) i) 2 (off g 3) := ((off_X (o := 3) (n := 2) (o2 := 8) (n2 := 12) hI (by decide) (by decide) (by decide)).rg (by omega)).symm
    refine va_calli (va_runV (As := [.ref ((g 3))]) (rest := []) ⟨hx, hb, hml, hown, hts⟩ (c_X3_rank l E (rg (off g 8) i) (z.2.2.2 i).1 (z.2.2.2 i).2.1 (z.2.2.2 i).2.2.1 (z.2.2.2 i).2.2.2.1 (z.2.2.2 i).2.2.2.2.1 (z.2.2.2 i).2.2.2.2.2.1 (z.2.2.2 i).2.2.2.2.2.2 (off g 3) el.1 el.2 (rg_I (off_I hI (by decide)) (by omega)) (off_I hI (by decide)) hXe) (cwV 1 hts gX5_numberOf_X3_rank rfl rfl rfl (by decide +kernel) ⟨Nat.le_of_ble_eq_true rfl, Nat.le_of_ble_eq_true rfl⟩) ⟨wS.blind, (w_recv hK hPI 0 (by decide) rfl (ci := 3) rfl), fun U hU hW => wS.go ⟨hRi, hEl⟩ hK wI0 hU hW⟩ rfl rfl hl.1 rfl (lv_room (Nat.le_of_ble_eq_true rfl)) dX5_numberOf_113 ⟨Nat.zero_le _, Nat.zero_le _⟩) hS (fun q _ h => (off_in (o := 3) (n := 2) (by decide)) q h) (off_in (o := 3) (n := 2) (by decide)) (fun r_5 uu t H_5 locs_5 ht hvm hw hB hz1 hk1 hS => ?_)
    rw [ht] at hB
    have hEl : wP E 2 (off g 3) (elF E (off g 3) (lookS (z.2.2.2 i).2.2.2.1).1 (lookS (z.2.2.2 i).2.2.2.1).2) H_5 := hB
    have hM := hM.other hk1 (off_M hI (by decide) (by decide)).out
    have hPa := hPa.other hk1 (off_X hI (by decide) (by decide) (by decide)).out
    have hTr := hTr.other hk1 (off_X hI (by decide) (by decide) (by decide)).out
    have hN := hN.other hk1 (off_X hI (by decide) (by decide) (by decide)).out
    have hHi := hHi.other hk1 (off_X hI (by decide) (by decide) (by decide)).out
    have hHs := hHs.other hk1 (off_X hI (by decide) (by decide) (by decide)).out
    obtain rfl : r_5 = (swar (z.2.2.2 i).2.1 + (lookS (z.2.2.2 i).2.2.2.1).2) := hw
    exact W.iret (v := (swar (z.2.2.2 i).2.1 + (lookS (z.2.2.2 i).2.2.2.1).2)) hx hb hr (fun t ht hW => ⟨⟨_, (), rfl, rfl, (by show MB E g ln bf z ke hs t.heap; rw [ht]; exact ⟨ol, zs, ⟨hol, hke, hzs, hln, hnb2, hnb⟩, hM, ⟨⟨(pa.1, pa.2.1, pa.2.2), hPa⟩, ⟨((lookS (z.2.2.2 i).2.2.2.1).1, (lookS (z.2.2.2 i).2.2.2.1).2), hEl⟩, ⟨tli, tq, hTr⟩⟩, hN, hHi, hHs⟩)⟩, hS.F ht⟩) hS.2.2 dX5_numberOf_116
set_option maxHeartbeats 4000000 in
set_option maxRecDepth 100000 in
theorem c_X5_receiver (l : Launch) (hst : l.stackTraces = false) (E : wE) (g : Nat → Nat) (ln : Nat) (bf : Nat → Int32) (z : SS) (ke : Nat) (hs : Nat → SS) (x w0 : Int32) : vx_Met l yX5_receiver wsX5_receiver ({ frames := 7, cells := 2, slots := 12, locals := 129 }) (va_Pc [.ref ((g 0)), .int x, .int w0] (wSx E 94 g (wF 94 g) (MB E g ln bf z ke hs))) (va_Qi (fun (r : Int32) (_ : Unit) => r = numF z.1 (z.2.2.2 x.toNatClampNeg) w0.toNatClampNeg) (fun _ t => (vp_in x 3 ∧ vp_in w0 9) ∧ MB E g ln bf z ke hs (t.heap)) (wF 94 g)) (vx_X (S := Unit) (fun _ => True) (fun Ex _ t => ((Ex = "java/lang/IndexOutOfBoundsException" ∧ ¬ vp_in x 3) ∨ (Ex = "java/lang/IllegalArgumentException" ∧ vp_in x 3 ∧ ¬ vp_in w0 9)) ∧ MB E g ln bf z ke hs (t.heap)) (wF 94 g)) 2 12 (wF 94 g) := by
  refine vx_ofW (cc := cX5_receiver) (maxL := 4) (ret := (some .int)) (by decide) rfl ?_
  intro p e s m args below meth c s₁ B hml hno hv
  obtain ⟨rfl, ⟨ol, zs, ⟨hol, hke, hzs, hln, hnb2, hnb⟩, hM, ⟨⟨pa, hPa⟩, ⟨el, hEl⟩, ⟨tli, tq, hTr⟩⟩, hN, hHi, hHs⟩, hK, hI, hxe⟩ := hv
  have hx := B.exec
  have hb := B.bytes
  have hr := B.returns
  have hts := atoms_spec (ws := wsX5_receiver) B.pre
  have hown : s.vm.findClass RX5 = some m.cls := findClass_of_methodNamed B.named
  have hlocks := B.notSynchronized
  have hS : va_S (wF 94 g) s.heap s.heap [] := va_S.rf
  have hl := lv_entry ([.ref ((g 0)), .int x, .int w0]) (n := 4) (Nat.le_of_ble_eq_true rfl)
  rw [lg_entry_eq]
  generalize (lg_sl ([.ref ((g 0)), .int x, .int w0]) ++ List.replicate (4 - (lg_sl ([.ref ((g 0)), .int x, .int w0])).length) Slot.unset).toArray = ls at hl ⊢
  have hl : lv_has ls 4 [(0, .ref ((g 0))), (1, .int x), (2, .int w0)] := hl
  have hN : stP E (off g 8) z.1 z.2.1 z.2.2.1 z.2.2.2 s.heap := hN
  refine lv_aload_n hx hb dX5_receiver_0 rfl (lv_at hl 0 rfl) ?_
  refine lv_iload_n hx hb dX5_receiver_1 rfl (lv_at hl 1 rfl) ?_
  refine vx_callq (vx_runV (As := [.int x]) (rest := []) ⟨hx, hb, hml, hown, hts⟩ (c_X5_existing l hst E g ln bf z ke hs x) (cwV 1 hts gX5_receiver_X5_existing rfl rfl rfl (by decide +kernel) ⟨Nat.le_of_ble_eq_true rfl, Nat.le_of_ble_eq_true rfl⟩) ⟨wSx.blind, (w_recv hK hM 0 (by decide) rfl (ci := 5) rfl), fun U hU hW => wSx.go ⟨ol, zs, ⟨hol, hke, hzs, hln, hnb2, hnb⟩, hM, ⟨⟨(pa.1, pa.2.1, pa.2.2), hPa⟩, ⟨(el.1, el.2), hEl⟩, ⟨tli, tq, hTr⟩⟩, hN, hHi, hHs⟩ hK hI hxe hS (fun q h => h) hU hW⟩ rfl rfl hl.1 rfl (lv_room (Nat.le_of_ble_eq_true rfl)) dX5_receiver_2 ⟨Nat.le_of_ble_eq_true rfl, Nat.le_of_ble_eq_true rfl⟩) hS (fun q _ h => h) (fun q h => h) (fun q _ h => h) (fun E9 ce9 q9 uu t H_1 locs_1 ht hvm hpx hbx hz1 hk1 hS hc9 hv9 hf9 => ?_) (fun r_1 uu t H_1 locs_1 ht hvm hw hB hz1 hk1 hS => ?_)
  · exact vx_out (fun x hx => (hno x hx).elim) hlocks hc9 hv9 hf9 (fun t2 ht2 hvm2 => ⟨(), trivial, ⟨Or.inl ⟨hbx.1, hbx.2.1⟩, (by rw [ht2, ← ht]; exact hbx.2.2)⟩, hS.F ht2⟩) hS.2.2 (Nat.le_of_ble_eq_true rfl) (Nat.le_of_ble_eq_true rfl)
  rw [ht] at hB
  obtain ⟨hc_i, ⟨ol, zs, ⟨hol, hke, hzs, hln, hnb2, hnb⟩, hM, ⟨⟨pa, hPa⟩, ⟨el, hEl⟩, ⟨tli, tq, hTr⟩⟩, hN, hHi, hHs⟩⟩ := hB
  have hN : stP E (off g 8) z.1 z.2.1 z.2.2.1 z.2.2.2 _ := hN
  obtain rfl : r_1 = some (off g 8 (3 + 3 * x.toNatClampNeg)) := hw
  obtain ⟨i, hn_i, rfl⟩ := vp_in_of hc_i (show 3 < 2 ^ 31 by decide)
  rw [nI_clamp (show i < 2 ^ 31 by omega)]
  refine lv_astore_n (lv' := [(3, .ref ((off g 8 (3 + 3 * i)))), (0, .ref ((g 0))), (1, .int ((nI i))), (2, .int w0)]) hx hb dX5_receiver_5 rfl hl (by decide) rfl (fun ls hl => ?_)
  refine lv_iload_n hx hb dX5_receiver_6 rfl (lv_at hl 3 rfl) ?_
  refine lv_bipush (v := 9) hx hb dX5_receiver_7 (by decide) ?_
  refine vx_callv (vx_runS (As := [.int w0, .int 9]) (rest := []) ⟨hx, hb, hml, hown, hts⟩ (c_X5_checkWhat l hst E w0 9 (by decide)) (va_cwS 2 hts gX5_receiver_X5_checkWhat rfl rfl rfl (by decide +kernel) ⟨Nat.le_of_ble_eq_true rfl, Nat.le_of_ble_eq_true rfl⟩) ⟨wSx.blind, fun U hU hW => wSx.go trivial hK wI0 hxe hS (fun q h => h.elim) hU hW⟩ rfl rfl hl.1 rfl (lv_room (Nat.le_of_ble_eq_true rfl)) dX5_receiver_9 ⟨Nat.le_of_ble_eq_true rfl, Nat.le_of_ble_eq_true rfl⟩) hS (fun q _ h => h.elim) (fun q h => h.elim) (fun q _ h => h.elim) (fun E9 ce9 q9 uu t H_2 locs_2 ht hvm hpx hbx hz1 hk1 hS hc9 hv9 hf9 => ?_) (fun uu t H_2 locs_2 ht hvm hw hB hz1 hk1 hS => ?_)
  · have hM := hM.same hk1
    have hPa := hPa.same hk1
    have hEl := hEl.same hk1
    have hTr := hTr.same hk1
    have hN := hN.same hk1
    have hHi := hHi.same hk1
    have hHs := hHs.same hk1
    exact vx_out (fun x hx => (hno x hx).elim) hlocks hc9 hv9 hf9 (fun t2 ht2 hvm2 => ⟨(), trivial, ⟨Or.inr ⟨hbx.1, hc_i, hbx.2⟩, (by rw [ht2]; exact ⟨ol, zs, ⟨hol, hke, hzs, hln, hnb2, hnb⟩, hM, ⟨⟨(pa.1, pa.2.1, pa.2.2), hPa⟩, ⟨(el.1, el.2), hEl⟩, ⟨tli, tq, hTr⟩⟩, hN, hHi, hHs⟩)⟩, hS.F ht2⟩) hS.2.2 (Nat.le_of_ble_eq_true rfl) (Nat.le_of_ble_eq_true rfl)
  have hc_j := hB
  have hM := hM.same hk1
  have hPa := hPa.same hk1
  have hEl := hEl.same hk1
  have hTr := hTr.same hk1
  have hN := hN.same hk1
  have hHi := hHi.same hk1
  have hHs := hHs.same hk1
  obtain ⟨j, hn_j, rfl⟩ := vp_in_of hc_j (show 9 < 2 ^ 31 by decide)
  refine lv_aload_n hx hb dX5_receiver_12 rfl (lv_at hl 1 rfl) ?_
  refine lv_aload_n hx hb dX5_receiver_13 rfl (lv_at hl 0 rfl) ?_
  refine lv_iload_n hx hb dX5_receiver_14 rfl (lv_at hl 3 rfl) ?_
  refine va_calli (va_runV (As := [.ref ((off g 8 (3 + 3 * i))), .int ((nI j))]) (rest := []) ⟨hx, hb, hml, hown, hts⟩ (c_X5_numberOf l E g ln bf z ke hs i (by omega) j (by omega)) (cwV 2 hts gX5_receiver_X5_numberOf rfl rfl rfl (by decide +kernel) ⟨Nat.le_of_ble_eq_true rfl, Nat.le_of_ble_eq_true rfl⟩) ⟨wS.blind, (w_recv hK hM 0 (by decide) rfl (ci := 5) rfl), fun U hU hW => wS.go ⟨ol, zs, ⟨hol, hke, hzs, hln, hnb2, hnb⟩, hM, ⟨⟨(pa.1, pa.2.1, pa.2.2), hPa⟩, ⟨(el.1, el.2), hEl⟩, ⟨tli, tq, hTr⟩⟩, hN, hHi, hHs⟩ hK hI hU hW⟩ rfl rfl hl.1 rfl (lv_room (Nat.le_of_ble_eq_true rfl)) dX5_receiver_15 ⟨Nat.le_of_ble_eq_true rfl, Nat.le_of_ble_eq_true rfl⟩) hS (fun q _ h => h) (fun q h => h) (fun r_3 uu t H_3 locs_3 ht hvm hw hB hz1 hk1 hS => ?_)
  rw [ht] at hB
  obtain ⟨ol, zs, ⟨hol, hke, hzs, hln, hnb2, hnb⟩, hM, ⟨⟨pa, hPa⟩, ⟨el, hEl⟩, ⟨tli, tq, hTr⟩⟩, hN, hHi, hHs⟩ := hB
  have hN : stP E (off g 8) z.1 z.2.1 z.2.2.1 z.2.2.2 _ := hN
  obtain rfl : r_3 = (numF z.1 (z.2.2.2 i) j) := hw
  refine vx_ret ?_
  refine W.widen (k := 2) (n := 12) (Nat.le_of_ble_eq_true rfl) (Nat.le_of_ble_eq_true rfl) ?_
  have hclj : (nI j).toNatClampNeg = j := nI_clamp (by omega)
  exact W.iret (v := (numF z.1 (z.2.2.2 i) j)) hx hb hr (fun t ht hW => ⟨⟨_, (), rfl, (by show _ = _; rw [hclj]), (by show (vp_in (nI i) 3 ∧ vp_in (nI j) 9) ∧ MB E g ln bf z ke hs t.heap; rw [ht]; exact ⟨⟨hc_i, hc_j⟩, ⟨ol, zs, ⟨hol, hke, hzs, hln, hnb2, hnb⟩, hM, ⟨⟨(pa.1, pa.2.1, pa.2.2), hPa⟩, ⟨(el.1, el.2), hEl⟩, ⟨tli, tq, hTr⟩⟩, hN, hHi, hHs⟩⟩)⟩, hS.F ht⟩) hS.2.2 dX5_receiver_18
set_option maxHeartbeats 4000000 in
set_option maxRecDepth 100000 in
theorem c_X5_waiting (l : Launch) (hst : l.stackTraces = false) (E : wE) (g : Nat → Nat) (ln : Nat) (bf : Nat → Int32) (z : SS) (ke : Nat) (hs : Nat → SS) (x y w0 : Int32) : vx_Met l yX5_waiting wsX5_waiting ({ frames := 7, cells := 2, slots := 12, locals := 112 }) (va_Pc [.ref ((g 0)), .int x, .int y, .int w0] (wSx E 94 g (wF 94 g) (MB E g ln bf z ke hs))) (va_Qi (fun (r : Int32) (_ : Unit) => r = waitF (z.2.2.2 x.toNatClampNeg) y.toNatClampNeg w0.toNatClampNeg) (fun _ t => (vp_in x 3 ∧ ¬ y < 0 ∧ vp_in w0 2) ∧ MB E g ln bf z ke hs (t.heap)) (wF 94 g)) (vx_X (S := Unit) (fun _ => True) (fun Ex _ t => ((Ex = "java/lang/IndexOutOfBoundsException" ∧ ¬ vp_in x 3) ∨ (Ex = "java/lang/IllegalArgumentException" ∧ vp_in x 3 ∧ ¬ (¬ y < 0 ∧ vp_in w0 2))) ∧ MB E g ln bf z ke hs (t.heap)) (wF 94 g)) 2 12 (wF 94 g) := by
  refine vx_ofW (cc := cX5_waiting) (maxL := 6) (ret := (some .int)) (by decide) rfl ?_
  intro p e s m args below meth c s₁ B hml hno hv
  obtain ⟨rfl, ⟨ol, zs, ⟨hol, hke, hzs, hln, hnb2, hnb⟩, hM, ⟨⟨pa, hPa⟩, ⟨el, hEl⟩, ⟨tli, tq, hTr⟩⟩, hN, hHi, hHs⟩, hK, hI, hxe⟩ := hv
  have hx := B.exec
  have hb := B.bytes
  have hr := B.returns
  have hts := atoms_spec (ws := wsX5_waiting) B.pre
  have hown : s.vm.findClass RX5 = some m.cls := findClass_of_methodNamed B.named
  have hlocks := B.notSynchronized
  have hS : va_S (wF 94 g) s.heap s.heap [] := va_S.rf
  have hin3 : ∀ w ∈ wsX30, w ∈ wsX5_waiting := by decide +kernel
  have hl := lv_entry ([.ref ((g 0)), .int x, .int y, .int w0]) (n := 6) (Nat.le_of_ble_eq_true rfl)
  rw [lg_entry_eq]
  generalize (lg_sl ([.ref ((g 0)), .int x, .int y, .int w0]) ++ List.replicate (6 - (lg_sl ([.ref ((g 0)), .int x, .int y, .int w0])).length) Slot.unset).toArray = ls at hl ⊢
  have hl : lv_has ls 6 [(0, .ref ((g 0))), (1, .int x), (2, .int y), (3, .int w0)] := hl
  have hN : stP E (off g 8) z.1 z.2.1 z.2.2.1 z.2.2.2 s.heap := hN
  refine lv_aload_n hx hb dX5_waiting_0 rfl (lv_at hl 0 rfl) ?_
  refine lv_iload_n hx hb dX5_waiting_1 rfl (lv_at hl 1 rfl) ?_
  refine vx_callq (vx_runV (As := [.int x]) (rest := []) ⟨hx, hb, hml, hown, hts⟩ (c_X5_existing l hst E g ln bf z ke hs x) (cwV 1 hts gX5_waiting_X5_existing rfl rfl rfl (by decide +kernel) ⟨Nat.le_of_ble_eq_true rfl, Nat.le_of_ble_eq_true rfl⟩) ⟨wSx.blind, (w_recv hK hM 0 (by decide) rfl (ci := 5) rfl), fun U hU hW => wSx.go ⟨ol, zs, ⟨hol, hke, hzs, hln, hnb2, hnb⟩, hM, ⟨⟨(pa.1, pa.2.1, pa.2.2), hPa⟩, ⟨(el.1, el.2), hEl⟩, ⟨tli, tq, hTr⟩⟩, hN, hHi, hHs⟩ hK hI hxe hS (fun q h => h) hU hW⟩ rfl rfl hl.1 rfl (lv_room (Nat.le_of_ble_eq_true rfl)) dX5_waiting_2 ⟨Nat.le_of_ble_eq_true rfl, Nat.le_of_ble_eq_true rfl⟩) hS (fun q _ h => h) (fun q h => h) (fun q _ h => h) (fun E9 ce9 q9 uu t H_1 locs_1 ht hvm hpx hbx hz1 hk1 hS hc9 hv9 hf9 => ?_) (fun r_1 uu t H_1 locs_1 ht hvm hw hB hz1 hk1 hS => ?_)
  · exact vx_out (fun x hx => (hno x hx).elim) hlocks hc9 hv9 hf9 (fun t2 ht2 hvm2 => ⟨(), trivial, ⟨Or.inl ⟨hbx.1, hbx.2.1⟩, (by rw [ht2, ← ht]; exact hbx.2.2)⟩, hS.F ht2⟩) hS.2.2 (Nat.le_of_ble_eq_true rfl) (Nat.le_of_ble_eq_true rfl)
  rw [ht] at hB
  obtain ⟨hc_i, ⟨ol, zs, ⟨hol, hke, hzs, hln, hnb2, hnb⟩, hM, ⟨⟨pa, hPa⟩, ⟨el, hEl⟩, ⟨tli, tq, hTr⟩⟩, hN, hHi, hHs⟩⟩ := hB
  have hN : stP E (off g 8) z.1 z.2.1 z.2.2.1 z.2.2.2 _ := hN
  obtain rfl : r_1 = some (off g 8 (3 + 3 * x.toNatClampNeg)) := hw
  obtain ⟨i, hn_i, rfl⟩ := vp_in_of hc_i (show 3 < 2 ^ 31 by decide)
  rw [nI_clamp (show i < 2 ^ 31 by omega)]
  refine lv_astore (lv' := [(4, .ref ((off g 8 (3 + 3 * i)))), (0, .ref ((g 0))), (1, .int ((nI i))), (2, .int y), (3, .int w0)]) hx hb dX5_waiting_5 hl (by decide) rfl (fun ls hl => ?_)
  refine lv_iload_n hx hb dX5_waiting_7 rfl (lv_at hl 3 rfl) ?_
  refine lv_if_ge (tgt := 21) hx hb dX5_waiting_8 (by decide) (fun c_2 => ?_) (fun c_2 => ?_)
  · obtain ⟨q0, hq0, rfl⟩ := nI_of (x := y) (Int32.not_lt.mpr c_2)
    refine lv_iload_n hx hb dX5_waiting_21 rfl (lv_at hl 4 rfl) ?_
    refine lv_iconst (v := 2) hx hb dX5_waiting_22 (by decide) ?_
    refine vx_callv (vx_runS (As := [.int w0, .int 2]) (rest := []) ⟨hx, hb, hml, hown, hts⟩ (c_X5_checkWhat l hst E w0 2 (by decide)) (va_cwS 2 hts gX5_waiting_X5_checkWhat rfl rfl rfl (by decide +kernel) ⟨Nat.le_of_ble_eq_true rfl, Nat.le_of_ble_eq_true rfl⟩) ⟨wSx.blind, fun U hU hW => wSx.go trivial hK wI0 hxe hS (fun q h => h.elim) hU hW⟩ rfl rfl hl.1 rfl (lv_room (Nat.le_of_ble_eq_true rfl)) dX5_waiting_23 ⟨Nat.le_of_ble_eq_true rfl, Nat.le_of_ble_eq_true rfl⟩) hS (fun q _ h => h.elim) (fun q h => h.elim) (fun q _ h => h.elim) (fun E9 ce9 q9 uu t H_3 locs_3 ht hvm hpx hbx hz1 hk1 hS hc9 hv9 hf9 => ?_) (fun uu t H_3 locs_3 ht hvm hw hB hz1 hk1 hS => ?_)
    · have hM := hM.same hk1
      have hPa := hPa.same hk1
      have hEl := hEl.same hk1
      have hTr := hTr.same hk1
      have hN := hN.same hk1
      have hHi := hHi.same hk1
      have hHs := hHs.same hk1
      exact vx_out (fun x hx => (hno x hx).elim) hlocks hc9 hv9 hf9 (fun t2 ht2 hvm2 => ⟨(), trivial, ⟨Or.inr ⟨hbx.1, hc_i, fun y => hbx.2 y.2⟩, (by rw [ht2]; exact ⟨ol, zs, ⟨hol, hke, hzs, hln, hnb2, hnb⟩, hM, ⟨⟨(pa.1, pa.2.1, pa.2.2), hPa⟩, ⟨(el.1, el.2), hEl⟩, ⟨tli, tq, hTr⟩⟩, hN, hHi, hHs⟩)⟩, hS.F ht2⟩) hS.2.2 (Nat.le_of_ble_eq_true rfl) (Nat.le_of_ble_eq_true rfl)
    have hc_j := hB
    have hM := hM.same hk1
    have hPa := hPa.same hk1
    have hEl := hEl.same hk1
    have hTr := hTr.same hk1
    have hN := hN.same hk1
    have hHi := hHi.same hk1
    have hHs := hHs.same hk1
    obtain ⟨j, hn_j, rfl⟩ := vp_in_of hc_j (show 2 < 2 ^ 31 by decide)
    refine lv_iload_n hx hb dX5_waiting_26 rfl (lv_at hl 3 rfl) ?_
    refine lv_aload hx hb dX5_waiting_27 (lv_at hl 0 rfl) ?_
    have hRi := hN.2 i (by omega)
    obtain ⟨hlnI, lfI, hlfI, hPI⟩ := id hRi
    refine w_getN (C := RX3) (T := TX3) (N := 8) (ci := 3) (v := .int (nI (z.2.2.2 i).2.2.2.1.length)) hx hb hts hin3 hown hK hPI 0 (by decide) rfl rfl 4 (by decide) nf_X5_165 (fun _ h9 => h9) rfl dX5_waiting_29 ?_
    refine lv_icmp_lt (tgt := 37) hx hb dX5_waiting_32 (by decide) (fun c_4 => ?_) (fun c_4 => ?_)
    · have hqw : q0 < (z.2.2.2 i).2.2.2.1.length := (nI_ltI (a := q0) (b := (z.2.2.2 i).2.2.2.1.length) (by omega) (by omega)).mp c_4
      refine lv_aload hx hb dX5_waiting_37 (lv_at hl 0 rfl) ?_
      refine lv_iload_n hx hb dX5_waiting_39 rfl (lv_at hl 3 rfl) ?_
      refine va_calli (va_runV (As := [.int ((nI q0))]) (rest := []) ⟨hx, hb, hml, hown, hts⟩ (c_X3_waitingAt l E (rg (off g 8) i) (z.2.2.2 i).1 (z.2.2.2 i).2.1 (z.2.2.2 i).2.2.1 (z.2.2.2 i).2.2.2.1 (z.2.2.2 i).2.2.2.2.1 (z.2.2.2 i).2.2.2.2.2.1 (z.2.2.2 i).2.2.2.2.2.2 q0 hqw) (cwV 1 hts gX5_waiting_X3_waitingAt rfl rfl rfl (by decide +kernel) ⟨Nat.le_of_ble_eq_true rfl, Nat.le_of_ble_eq_true rfl⟩) ⟨wS.blind, (w_recv hK hPI 0 (by decide) rfl (ci := 3) rfl), fun U hU hW => wS.go hRi hK (rg_I (off_I hI (by decide)) (by omega)) hU hW⟩ rfl rfl hl.1 rfl (lv_room (Nat.le_of_ble_eq_true rfl)) dX5_waiting_40 ⟨Nat.le_of_ble_eq_true rfl, Nat.le_of_ble_eq_true rfl⟩) hS (fun q _ h => h.elim) (fun q h => h.elim) (fun r_5 uu t H_5 locs_5 ht hvm hw hB hz1 hk1 hS => ?_)
      have hM := hM.same hk1
      have hPa := hPa.same hk1
      have hEl := hEl.same hk1
      have hTr := hTr.same hk1
      have hN := hN.same hk1
      have hHi := hHi.same hk1
      have hHs := hHs.same hk1
      obtain rfl : r_5 = ((z.2.2.2 i).2.2.2.1.getD q0 0) := hw
      refine lv_istore (lv' := [(5, .int (((z.2.2.2 i).2.2.2.1.getD q0 0))), (4, .ref ((off g 8 (3 + 3 * i)))), (0, .ref ((g 0))), (1, .int ((nI i))), (2, .int ((nI q0))), (3, .int ((nI j)))]) hx hb dX5_waiting_43 hl (by decide) rfl (fun ls hl => ?_)
      refine lv_iload_n hx hb dX5_waiting_45 rfl (lv_at hl 5 rfl) ?_
      refine lv_if_ne (tgt := 57) hx hb dX5_waiting_46 (by decide) (fun c_6 => ?_) (fun c_6 => ?_)
      · refine lv_iload hx hb dX5_waiting_57 (lv_at hl 0 rfl) ?_
        refine va_calli (va_runS (As := [.int (((z.2.2.2 i).2.2.2.1.getD q0 0))]) (rest := []) ⟨hx, hb, hml, hown, hts⟩ (c_X5_valueOf l ((z.2.2.2 i).2.2.2.1.getD q0 0)) (va_cwS 1 hts gX5_waiting_X5_valueOf rfl rfl rfl (by decide +kernel) ⟨Nat.le_of_ble_eq_true rfl, Nat.le_of_ble_eq_true rfl⟩) ⟨wU_blind, fun U hU hW => ⟨rfl, trivial⟩⟩ rfl rfl hl.1 rfl (lv_room (Nat.le_of_ble_eq_true rfl)) dX5_waiting_59 ⟨Nat.le_of_ble_eq_true rfl, Nat.le_of_ble_eq_true rfl⟩) hS (fun q _ h => h.elim) (fun q h => h.elim) (fun r_7 uu t H_7 locs_7 ht hvm hw hB hz1 hk1 hS => ?_)
        have hM := hM.same hk1
        have hPa := hPa.same hk1
        have hEl := hEl.same hk1
        have hTr := hTr.same hk1
        have hN := hN.same hk1
        have hHi := hHi.same hk1
        have hHs := hHs.same hk1
        obtain rfl : r_7 = (((z.2.2.2 i).2.2.2.1.getD q0 0) >>> ((12 : Int32) &&& 31)) := hw
        refine vx_ret ?_
        refine W.widen (k := 2) (n := 12) (Nat.le_of_ble_eq_true rfl) (Nat.le_of_ble_eq_true rfl) ?_
        have hclj : (nI j).toNatClampNeg = j := nI_clamp (by omega)
        exact W.iret (v := (((z.2.2.2 i).2.2.2.1.getD q0 0) >>> ((12 : Int32) &&& 31))) hx hb hr (fun t ht hW => ⟨⟨_, (), rfl, (by show _ = _; rw [nI_clamp hq0, waitF, if_neg (by omega), hclj, if_neg (fun y => c_6 (by rw [y]; rfl))]), (by show (vp_in (nI i) 3 ∧ ¬ nI q0 < 0 ∧ vp_in (nI j) 2) ∧ MB E g ln bf z ke hs t.heap; rw [ht]; exact ⟨⟨hc_i, nI_pos hq0, hc_j⟩, ⟨ol, zs, ⟨hol, hke, hzs, hln, hnb2, hnb⟩, hM, ⟨⟨(pa.1, pa.2.1, pa.2.2), hPa⟩, ⟨(el.1, el.2), hEl⟩, ⟨tli, tq, hTr⟩⟩, hN, hHi, hHs⟩⟩)⟩, hS.F ht⟩) hS.2.2 dX5_waiting_62
      · refine lv_iload hx hb dX5_waiting_49 (lv_at hl 0 rfl) ?_
        refine va_calli (va_runS (As := [.int (((z.2.2.2 i).2.2.2.1.getD q0 0))]) (rest := []) ⟨hx, hb, hml, hown, hts⟩ (c_X5_blocksOf l ((z.2.2.2 i).2.2.2.1.getD q0 0)) (va_cwS 1 hts gX5_waiting_X5_blocksOf rfl rfl rfl (by decide +kernel) ⟨Nat.le_of_ble_eq_true rfl, Nat.le_of_ble_eq_true rfl⟩) ⟨wU_blind, fun U hU hW => ⟨rfl, trivial⟩⟩ rfl rfl hl.1 rfl (lv_room (Nat.le_of_ble_eq_true rfl)) dX5_waiting_51 ⟨Nat.le_of_ble_eq_true rfl, Nat.le_of_ble_eq_true rfl⟩) hS (fun q _ h => h.elim) (fun q h => h.elim) (fun r_8 uu t H_8 locs_8 ht hvm hw hB hz1 hk1 hS => ?_)
        have hM := hM.same hk1
        have hPa := hPa.same hk1
        have hEl := hEl.same hk1
        have hTr := hTr.same hk1
        have hN := hN.same hk1
        have hHi := hHi.same hk1
        have hHs := hHs.same hk1
        obtain rfl : r_8 = (((z.2.2.2 i).2.2.2.1.getD q0 0) &&& 4095) := hw
        refine lv_goto (tgt := 62) hx hb dX5_waiting_54 (by decide) ?_
        refine vx_ret ?_
        refine W.widen (k := 2) (n := 12) (Nat.le_of_ble_eq_true rfl) (Nat.le_of_ble_eq_true rfl) ?_
        have hclj : (nI j).toNatClampNeg = j := nI_clamp (by omega)
        exact W.iret (v := (((z.2.2.2 i).2.2.2.1.getD q0 0) &&& 4095)) hx hb hr (fun t ht hW => ⟨⟨_, (), rfl, (by show _ = _; rw [nI_clamp hq0, waitF, if_neg (by omega), hclj, if_pos ((nI_eq (a := j) (b := 0) (by omega) (by omega)).mp c_6)]), (by show (vp_in (nI i) 3 ∧ ¬ nI q0 < 0 ∧ vp_in (nI j) 2) ∧ MB E g ln bf z ke hs t.heap; rw [ht]; exact ⟨⟨hc_i, nI_pos hq0, hc_j⟩, ⟨ol, zs, ⟨hol, hke, hzs, hln, hnb2, hnb⟩, hM, ⟨⟨(pa.1, pa.2.1, pa.2.2), hPa⟩, ⟨(el.1, el.2), hEl⟩, ⟨tli, tq, hTr⟩⟩, hN, hHi, hHs⟩⟩)⟩, hS.F ht⟩) hS.2.2 dX5_waiting_62
    · have hqw : (z.2.2.2 i).2.2.2.1.length ≤ q0 := Nat.le_of_not_lt (fun y => c_4 ((nI_ltI (a := q0) (b := (z.2.2.2 i).2.2.2.1.length) (by omega) (by omega)).mpr y))
      refine lv_iconst (v := (-1)) hx hb dX5_waiting_35 (by decide) ?_
      refine vx_ret ?_
      refine W.widen (k := 2) (n := 12) (Nat.le_of_ble_eq_true rfl) (Nat.le_of_ble_eq_true rfl) ?_
      have hclj : (nI j).toNatClampNeg = j := nI_clamp (by omega)
      exact W.iret (v := (-1)) hx hb hr (fun t ht hW => ⟨⟨_, (), rfl, (by show _ = _; rw [nI_clamp hq0, waitF, if_pos hqw]), (by show (vp_in (nI i) 3 ∧ ¬ nI q0 < 0 ∧ vp_in (nI j) 2) ∧ MB E g ln bf z ke hs t.heap; rw [ht]; exact ⟨⟨hc_i, nI_pos hq0, hc_j⟩, ⟨ol, zs, ⟨hol, hke, hzs, hln, hnb2, hnb⟩, hM, ⟨⟨(pa.1, pa.2.1, pa.2.2), hPa⟩, ⟨(el.1, el.2), hEl⟩, ⟨tli, tq, hTr⟩⟩, hN, hHi, hHs⟩⟩)⟩, hS.F ht⟩) hS.2.2 dX5_waiting_36
  · exact w_throw hx hb hst hown (by decide +kernel) (hts (.classLink RX5 52 "java/lang/IllegalArgumentException") (List.mem_of_getElem? (i := 1) rfl)) (hts (.initialized "java/lang/IllegalArgumentException") (List.mem_of_getElem? (i := 2) rfl)) (List.mem_of_getElem? (i := 7) rfl) (fun w h => hts w (List.mem_cons_of_mem _ (List.mem_append_left _ (List.mem_append_right _ h)))) xb56 xo56 hxe hS (hl.1.trans hml.symm) dX5_waiting_11 dX5_waiting_14 dX5_waiting_15 dX5_waiting_17 dX5_waiting_20 hno (Nat.le_of_ble_eq_true rfl) (Nat.le_of_ble_eq_true rfl) (Nat.le_of_ble_eq_true rfl) (Nat.le_of_ble_eq_true rfl) hlocks (fun t h1 h2 => ⟨(), trivial, ⟨Or.inr ⟨rfl, hc_i, fun y => y.1 (Int32.not_le.mp c_2)⟩, MB.new ⟨ol, zs, ⟨hol, hke, hzs, hln, hnb2, hnb⟩, hM, ⟨⟨(pa.1, pa.2.1, pa.2.2), hPa⟩, ⟨(el.1, el.2), hEl⟩, ⟨tli, tq, hTr⟩⟩, hN, hHi, hHs⟩ h1⟩, h2⟩) hS.2.2 (Nat.le_of_ble_eq_true rfl) (Nat.le_of_ble_eq_true rfl)
