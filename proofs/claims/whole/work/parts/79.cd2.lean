set_option maxHeartbeats 4000000 in
set_option maxRecDepth 100000 in
theorem c_X5_use (l : Launch) (hst : l.stackTraces = false) (E : wE) (g : Nat → Nat) (ln : Nat) (bf : Nat → Int32) (z : SS) (ke : Nat) (hs : Nat → SS) (x : Int32) : vx_Met l yX5_use wsX5_use ({ frames := 7, cells := 1, slots := 6, locals := 112 }) (va_Pc [.ref ((g 0)), .int x] (wSx E 94 g (wF 94 g) (MB E g ln bf z ke hs))) (va_Qd (fun (r : UInt64) (_ : Unit) => r = shF (z.2.2.2 x.toNatClampNeg).2.2.2.2.1 (z.2.2.2 x.toNatClampNeg).2.2.2.2.2.1 (z.2.2.2 x.toNatClampNeg).2.2.2.2.2.2) (fun _ t => vp_in x 3 ∧ MB E g ln bf z ke hs (t.heap)) (wF 94 g)) (vx_X (S := Unit) (fun _ => True) (fun Ex _ t => (Ex = "java/lang/IndexOutOfBoundsException" ∧ ¬ vp_in x 3) ∧ MB E g ln bf z ke hs (t.heap)) (wF 94 g)) 1 6 (wF 94 g) := by
  refine vx_ofW (cc := cX5_use) (maxL := 2) (ret := (some .double)) (by decide) rfl ?_
  intro p e s m args below meth c s₁ B hml hno hv
  obtain ⟨rfl, ⟨ol, zs, ⟨hol, hke, hzs, hln, hnb2, hnb⟩, hM, ⟨⟨pa, hPa⟩, ⟨el, hEl⟩, ⟨tli, tq, hTr⟩⟩, hN, hHi, hHs⟩, hK, hI, hxe⟩ := hv
  have hx := B.exec
  have hb := B.bytes
  have hr := B.returns
  have hts := atoms_spec (ws := wsX5_use) B.pre
  have hown : s.vm.findClass RX5 = some m.cls := findClass_of_methodNamed B.named
  have hlocks := B.notSynchronized
  have hS : va_S (wF 94 g) s.heap s.heap [] := va_S.rf
  have hl := lv_entry ([.ref ((g 0)), .int x]) (n := 2) (Nat.le_of_ble_eq_true rfl)
  rw [lg_entry_eq]
  generalize (lg_sl ([.ref ((g 0)), .int x]) ++ List.replicate (2 - (lg_sl ([.ref ((g 0)), .int x])).length) Slot.unset).toArray = ls at hl ⊢
  have hl : lv_has ls 2 [(0, .ref ((g 0))), (1, .int x)] := hl
  have hN : stP E (off g 8) z.1 z.2.1 z.2.2.1 z.2.2.2 s.heap := hN
  refine lv_aload_n hx hb dX5_use_0 rfl (lv_at hl 0 rfl) ?_
  refine lv_iload_n hx hb dX5_use_1 rfl (lv_at hl 1 rfl) ?_
  refine vx_callq (vx_runV (As := [.int x]) (rest := []) ⟨hx, hb, hml, hown, hts⟩ (c_X5_existing l hst E g ln bf z ke hs x) (cwV 1 hts gX5_use_X5_existing rfl rfl rfl (by decide +kernel) ⟨Nat.le_of_ble_eq_true rfl, Nat.le_of_ble_eq_true rfl⟩) ⟨wSx.blind, (w_recv hK hM 0 (by decide) rfl (ci := 5) rfl), fun U hU hW => wSx.go ⟨ol, zs, ⟨hol, hke, hzs, hln, hnb2, hnb⟩, hM, ⟨⟨(pa.1, pa.2.1, pa.2.2), hPa⟩, ⟨(el.1, el.2), hEl⟩, ⟨tli, tq, hTr⟩⟩, hN, hHi, hHs⟩ hK hI hxe hS (fun q h => h) hU hW⟩ rfl rfl hl.1 rfl (lv_room (Nat.le_of_ble_eq_true rfl)) dX5_use_2 ⟨Nat.le_of_ble_eq_true rfl, Nat.le_of_ble_eq_true rfl⟩) hS (fun q _ h => h) (fun q h => h) (fun q _ h => h) (fun E9 ce9 q9 uu t H_1 locs_1 ht hvm hpx hbx hz1 hk1 hS hc9 hv9 hf9 => ?_) (fun r_1 uu t H_1 locs_1 ht hvm hw hB hz1 hk1 hS => ?_)
  · exact vx_out (fun x hx => (hno x hx).elim) hlocks hc9 hv9 hf9 (fun t2 ht2 hvm2 => ⟨(), trivial, ⟨⟨hbx.1, hbx.2.1⟩, (by rw [ht2, ← ht]; exact hbx.2.2)⟩, hS.F ht2⟩) hS.2.2 (Nat.le_of_ble_eq_true rfl) (Nat.le_of_ble_eq_true rfl)
  rw [ht] at hB
  obtain ⟨hc_i, ⟨ol, zs, ⟨hol, hke, hzs, hln, hnb2, hnb⟩, hM, ⟨⟨pa, hPa⟩, ⟨el, hEl⟩, ⟨tli, tq, hTr⟩⟩, hN, hHi, hHs⟩⟩ := hB
  have hN : stP E (off g 8) z.1 z.2.1 z.2.2.1 z.2.2.2 _ := hN
  obtain rfl : r_1 = some (off g 8 (3 + 3 * x.toNatClampNeg)) := hw
  obtain ⟨i, hn_i, rfl⟩ := vp_in_of hc_i (show 3 < 2 ^ 31 by decide)
  rw [nI_clamp (show i < 2 ^ 31 by omega)]
  have hRi := hN.2 i (by omega)
  obtain ⟨hlnI, lfI, hlfI, hPI⟩ := id hRi
  refine va_calld (va_runV (As := []) (rest := []) ⟨hx, hb, hml, hown, hts⟩ (c_X3_share l E (rg (off g 8) i) (z.2.2.2 i).1 (z.2.2.2 i).2.1 (z.2.2.2 i).2.2.1 (z.2.2.2 i).2.2.2.1 (z.2.2.2 i).2.2.2.2.1 (z.2.2.2 i).2.2.2.2.2.1 (z.2.2.2 i).2.2.2.2.2.2) (cwV 0 hts gX5_use_X3_share rfl rfl rfl (by decide +kernel) ⟨Nat.le_of_ble_eq_true rfl, Nat.le_of_ble_eq_true rfl⟩) ⟨wS.blind, (w_recv hK hPI 0 (by decide) rfl (ci := 3) rfl), fun U hU hW => wS.go hRi hK (rg_I (off_I hI (by decide)) (by omega)) hU hW⟩ rfl rfl hl.1 rfl (lv_room (Nat.le_of_ble_eq_true rfl)) dX5_use_5 ⟨Nat.le_of_ble_eq_true rfl, Nat.le_of_ble_eq_true rfl⟩) hS (fun q _ h => h.elim) (fun q h => h.elim) (fun r_2 uu t H_2 locs_2 ht hvm hw hB hz1 hk1 hS => ?_)
  have hM := hM.same hk1
  have hPa := hPa.same hk1
  have hEl := hEl.same hk1
  have hTr := hTr.same hk1
  have hN := hN.same hk1
  have hHi := hHi.same hk1
  have hHs := hHs.same hk1
  obtain rfl : r_2 = (shF (z.2.2.2 i).2.2.2.2.1 (z.2.2.2 i).2.2.2.2.2.1 (z.2.2.2 i).2.2.2.2.2.2) := hw
  refine vx_ret ?_
  refine W.widen (k := 1) (n := 6) (Nat.le_of_ble_eq_true rfl) (Nat.le_of_ble_eq_true rfl) ?_
  exact W.dret (v := (shF (z.2.2.2 i).2.2.2.2.1 (z.2.2.2 i).2.2.2.2.2.1 (z.2.2.2 i).2.2.2.2.2.2)) hx hb hr (fun t ht hW => ⟨⟨_, (), rfl, rfl, (by show vp_in (nI i) 3 ∧ MB E g ln bf z ke hs t.heap; rw [ht]; exact ⟨hc_i, ⟨ol, zs, ⟨hol, hke, hzs, hln, hnb2, hnb⟩, hM, ⟨⟨(pa.1, pa.2.1, pa.2.2), hPa⟩, ⟨(el.1, el.2), hEl⟩, ⟨tli, tq, hTr⟩⟩, hN, hHi, hHs⟩⟩)⟩, hS.F ht⟩) hS.2.2 dX5_use_8
set_option maxHeartbeats 4000000 in
set_option maxRecDepth 100000 in
theorem c_X5_hashedGuesses (l : Launch) (E : wE) (g : Nat → Nat) (ln : Nat) (bf : Nat → Int32) (z : SS) (ke : Nat) (hs : Nat → SS) (i : Nat) (hi3 : i < 3) (h0 : Int64) : Met l yX5_hashedGuesses wsX5_hashedGuesses ({ frames := 6, cells := 0, slots := 0, locals := 150 }) (va_Pc [.ref ((g 0)), .long h0, .ref ((off g 8 (3 + 3 * i)))] (wSd E 94 g (wF 94 g) (MB E g ln bf z ke hs))) (va_Ql (fun (r : Int64) (_ : Unit) => r = hgF z (z.2.2.2 i) h0) (fun _ t => MB E g ln bf z ke hs (t.heap)) (wF 94 g)) 0 0 (wF 94 g) := by
  refine Met.ofW (cc := cX5_hashedGuesses) (maxL := 6) (ret := (some .long)) (by decide) rfl ?_
  intro p e s m args below meth c s₁ B hml hv
  obtain ⟨rfl, ⟨ol, zs, ⟨hol, hke, hzs, hln, hnb2, hnb⟩, hM, ⟨⟨pa, hPa⟩, ⟨el, hEl⟩, ⟨tli, tq, hTr⟩⟩, hN, hHi, hHs⟩, hK, hI, hdg⟩ := hv
  have hx := B.exec
  have hb := B.bytes
  have hr := B.returns
  have hts := atoms_spec (ws := wsX5_hashedGuesses) B.pre
  have hown : s.vm.findClass RX5 = some m.cls := findClass_of_methodNamed B.named
  have hlocks := B.notSynchronized
  have hS : va_S (wF 94 g) s.heap s.heap [] := va_S.rf
  have hA : ∀ k, k < 94 → (wF 94 g) (g k) := wF_in
  have hl := lv_entry ([.ref ((g 0)), .long h0, .ref ((off g 8 (3 + 3 * i)))]) (n := 6) (Nat.le_of_ble_eq_true rfl)
  rw [lg_entry_eq]
  generalize (lg_sl ([.ref ((g 0)), .long h0, .ref ((off g 8 (3 + 3 * i)))]) ++ List.replicate (6 - (lg_sl ([.ref ((g 0)), .long h0, .ref ((off g 8 (3 + 3 * i)))])).length) Slot.unset).toArray = ls at hl ⊢
  have hl : lv_has ls 6 [(0, .ref ((g 0))), (1, .long h0), (3, .ref ((off g 8 (3 + 3 * i))))] := hl
  have hN : stP E (off g 8) z.1 z.2.1 z.2.2.1 z.2.2.2 s.heap := hN
  refine lv_lload_n hx hb dX5_hashedGuesses_0 rfl (lv_at hl 1 rfl) ?_
  refine lv_aload_n hx hb dX5_hashedGuesses_1 rfl (lv_at hl 0 rfl) ?_
  refine lv_aload_n hx hb dX5_hashedGuesses_2 rfl (lv_at hl 2 rfl) ?_
  refine lv_bipush (v := 100) hx hb dX5_hashedGuesses_3 (by decide) ?_
  refine va_calli (va_runV (As := [.ref ((off g 8 (3 + 3 * i))), .int 100]) (rest := [.long h0]) ⟨hx, hb, hml, hown, hts⟩ (c_X5_foundIfGot l E g ln bf z ke hs i (by omega) 100 (by decide)) (cwV 2 hts gX5_hashedGuesses_X5_foundIfGot rfl rfl rfl (by decide +kernel) ⟨Nat.le_of_ble_eq_true rfl, Nat.le_of_ble_eq_true rfl⟩) ⟨wSd.blind, (w_recv hK hM 0 (by decide) rfl (ci := 5) rfl), fun U hU hW => wSd.go ⟨ol, zs, ⟨hol, hke, hzs, hln, hnb2, hnb⟩, hM, ⟨⟨(pa.1, pa.2.1, pa.2.2), hPa⟩, ⟨(el.1, el.2), hEl⟩, ⟨tli, tq, hTr⟩⟩, hN, hHi, hHs⟩ hK hI hdg hS (fun q h => h) hU hW⟩ rfl rfl hl.1 rfl (lv_room (Nat.le_of_ble_eq_true rfl)) dX5_hashedGuesses_5 ⟨Nat.zero_le _, Nat.zero_le _⟩) hS (fun q _ h => h) (fun q h => h) (fun r_1 uu t H_1 locs_1 ht hvm hw hB hz1 hk1 hS => ?_)
  rw [ht] at hB
  obtain ⟨ol, zs, ⟨hol, hke, hzs, hln, hnb2, hnb⟩, hM, ⟨⟨pa, hPa⟩, ⟨el, hEl⟩, ⟨tli, tq, hTr⟩⟩, hN, hHi, hHs⟩ := hB
  have hN : stP E (off g 8) z.1 z.2.1 z.2.2.1 z.2.2.2 _ := hN
  obtain rfl : r_1 = (getS (mixS z.1 z.2.1 100) (z.2.2.2 i).2).1 := hw
  refine lv_i2l (v := ((getS (mixS z.1 z.2.1 100) (z.2.2.2 i).2).1).toInt64) hx hb dX5_hashedGuesses_8 rfl ?_
  refine va_calll (va_runS (As := [.long h0, .long (((getS (mixS z.1 z.2.1 100) (z.2.2.2 i).2).1).toInt64)]) (rest := []) ⟨hx, hb, hml, hown, hts⟩ (c_X5_hashed l h0 (((getS (mixS z.1 z.2.1 100) (z.2.2.2 i).2).1).toInt64)) (va_cwS 2 hts gX5_hashedGuesses_X5_hashed rfl rfl rfl (by decide +kernel) ⟨Nat.le_of_ble_eq_true rfl, Nat.le_of_ble_eq_true rfl⟩) ⟨wU_blind, fun U hU hW => ⟨rfl, trivial⟩⟩ rfl rfl hl.1 rfl (lv_room (Nat.le_of_ble_eq_true rfl)) dX5_hashedGuesses_9 ⟨Nat.zero_le _, Nat.zero_le _⟩) hS (fun q _ h => h.elim) (fun q h => h.elim) (fun r_2 uu t H_2 locs_2 ht hvm hw hB hz1 hk1 hS => ?_)
  have hM := hM.same hk1
  have hPa := hPa.same hk1
  have hEl := hEl.same hk1
  have hTr := hTr.same hk1
  have hN := hN.same hk1
  have hHi := hHi.same hk1
  have hHs := hHs.same hk1
  obtain rfl : r_2 = (31 * h0 + (((getS (mixS z.1 z.2.1 100) (z.2.2.2 i).2).1).toInt64)) := hw
  refine lv_lstore (lv' := [(4, .long ((31 * h0 + (((getS (mixS z.1 z.2.1 100) (z.2.2.2 i).2).1).toInt64)))), (0, .ref ((g 0))), (1, .long h0), (3, .ref ((off g 8 (3 + 3 * i))))]) hx hb dX5_hashedGuesses_12 hl (by decide) rfl (fun ls hl => ?_)
  refine lv_lload hx hb dX5_hashedGuesses_14 (lv_at hl 0 rfl) ?_
  refine lv_aload_n hx hb dX5_hashedGuesses_16 rfl (lv_at hl 1 rfl) ?_
  refine lv_aload_n hx hb dX5_hashedGuesses_17 rfl (lv_at hl 3 rfl) ?_
  refine lv_bipush (v := 100) hx hb dX5_hashedGuesses_18 (by decide) ?_
  refine va_calli (va_runV (As := [.ref ((off g 8 (3 + 3 * i))), .int 100]) (rest := [.long ((31 * h0 + (((getS (mixS z.1 z.2.1 100) (z.2.2.2 i).2).1).toInt64)))]) ⟨hx, hb, hml, hown, hts⟩ (c_X5_rankIfGot l E g ln bf z ke hs i (by omega) 100 (by decide)) (cwV 2 hts gX5_hashedGuesses_X5_rankIfGot rfl rfl rfl (by decide +kernel) ⟨Nat.le_of_ble_eq_true rfl, Nat.le_of_ble_eq_true rfl⟩) ⟨wSd.blind, (w_recv hK hM 0 (by decide) rfl (ci := 5) rfl), fun U hU hW => wSd.go ⟨ol, zs, ⟨hol, hke, hzs, hln, hnb2, hnb⟩, hM, ⟨⟨(pa.1, pa.2.1, pa.2.2), hPa⟩, ⟨(el.1, el.2), hEl⟩, ⟨tli, tq, hTr⟩⟩, hN, hHi, hHs⟩ hK hI hdg hS (fun q h => h) hU hW⟩ rfl rfl hl.1 rfl (lv_room (Nat.le_of_ble_eq_true rfl)) dX5_hashedGuesses_20 ⟨Nat.zero_le _, Nat.zero_le _⟩) hS (fun q _ h => h) (fun q h => h) (fun r_3 uu t H_3 locs_3 ht hvm hw hB hz1 hk1 hS => ?_)
  rw [ht] at hB
  obtain ⟨ol, zs, ⟨hol, hke, hzs, hln, hnb2, hnb⟩, hM, ⟨⟨pa, hPa⟩, ⟨el, hEl⟩, ⟨tli, tq, hTr⟩⟩, hN, hHi, hHs⟩ := hB
  have hN : stP E (off g 8) z.1 z.2.1 z.2.2.1 z.2.2.2 _ := hN
  obtain rfl : r_3 = (rankQ (getS (mixS z.1 z.2.1 100) (z.2.2.2 i).2).2) := hw
  refine lv_i2l (v := (rankQ (getS (mixS z.1 z.2.1 100) (z.2.2.2 i).2).2).toInt64) hx hb dX5_hashedGuesses_23 rfl ?_
  refine va_calll (va_runS (As := [.long ((31 * h0 + (((getS (mixS z.1 z.2.1 100) (z.2.2.2 i).2).1).toInt64))), .long ((rankQ (getS (mixS z.1 z.2.1 100) (z.2.2.2 i).2).2).toInt64)]) (rest := []) ⟨hx, hb, hml, hown, hts⟩ (c_X5_hashed l (31 * h0 + (((getS (mixS z.1 z.2.1 100) (z.2.2.2 i).2).1).toInt64)) ((rankQ (getS (mixS z.1 z.2.1 100) (z.2.2.2 i).2).2).toInt64)) (va_cwS 2 hts gX5_hashedGuesses_X5_hashed rfl rfl rfl (by decide +kernel) ⟨Nat.le_of_ble_eq_true rfl, Nat.le_of_ble_eq_true rfl⟩) ⟨wU_blind, fun U hU hW => ⟨rfl, trivial⟩⟩ rfl rfl hl.1 rfl (lv_room (Nat.le_of_ble_eq_true rfl)) dX5_hashedGuesses_24 ⟨Nat.zero_le _, Nat.zero_le _⟩) hS (fun q _ h => h.elim) (fun q h => h.elim) (fun r_4 uu t H_4 locs_4 ht hvm hw hB hz1 hk1 hS => ?_)
  have hM := hM.same hk1
  have hPa := hPa.same hk1
  have hEl := hEl.same hk1
  have hTr := hTr.same hk1
  have hN := hN.same hk1
  have hHi := hHi.same hk1
  have hHs := hHs.same hk1
  obtain rfl : r_4 = (31 * (31 * h0 + (((getS (mixS z.1 z.2.1 100) (z.2.2.2 i).2).1).toInt64)) + ((rankQ (getS (mixS z.1 z.2.1 100) (z.2.2.2 i).2).2).toInt64)) := hw
  refine lv_lstore (lv' := [(4, .long ((31 * (31 * h0 + (((getS (mixS z.1 z.2.1 100) (z.2.2.2 i).2).1).toInt64)) + ((rankQ (getS (mixS z.1 z.2.1 100) (z.2.2.2 i).2).2).toInt64)))), (0, .ref ((g 0))), (1, .long h0), (3, .ref ((off g 8 (3 + 3 * i))))]) hx hb dX5_hashedGuesses_27 hl (by decide) rfl (fun ls hl => ?_)
  refine lv_lload hx hb dX5_hashedGuesses_29 (lv_at hl 0 rfl) ?_
  refine lv_aload_n hx hb dX5_hashedGuesses_31 rfl (lv_at hl 1 rfl) ?_
  refine lv_aload_n hx hb dX5_hashedGuesses_32 rfl (lv_at hl 3 rfl) ?_
  refine lv_iconst (v := 0) hx hb dX5_hashedGuesses_33 (by decide) ?_
  refine va_calli (va_runV (As := [.ref ((off g 8 (3 + 3 * i))), .int 0]) (rest := [.long ((31 * (31 * h0 + (((getS (mixS z.1 z.2.1 100) (z.2.2.2 i).2).1).toInt64)) + ((rankQ (getS (mixS z.1 z.2.1 100) (z.2.2.2 i).2).2).toInt64)))]) ⟨hx, hb, hml, hown, hts⟩ (c_X5_nextHelp l E g ln bf z ke hs i (by omega) 0 (by decide)) (cwV 2 hts gX5_hashedGuesses_X5_nextHelp rfl rfl rfl (by decide +kernel) ⟨Nat.le_of_ble_eq_true rfl, Nat.le_of_ble_eq_true rfl⟩) ⟨wSd.blind, (w_recv hK hM 0 (by decide) rfl (ci := 5) rfl), fun U hU hW => wSd.go ⟨ol, zs, ⟨hol, hke, hzs, hln, hnb2, hnb⟩, hM, ⟨⟨(pa.1, pa.2.1, pa.2.2), hPa⟩, ⟨(el.1, el.2), hEl⟩, ⟨tli, tq, hTr⟩⟩, hN, hHi, hHs⟩ hK hI hdg hS (fun q h => h.elim) hU hW⟩ rfl rfl hl.1 rfl (lv_room (Nat.le_of_ble_eq_true rfl)) dX5_hashedGuesses_34 ⟨Nat.zero_le _, Nat.zero_le _⟩) hS (fun q _ h => h.elim) (fun q h => h.elim) (fun r_5 uu t H_5 locs_5 ht hvm hw hB hz1 hk1 hS => ?_)
  have hM := hM.same hk1
  have hPa := hPa.same hk1
  have hEl := hEl.same hk1
  have hTr := hTr.same hk1
  have hN := hN.same hk1
  have hHi := hHi.same hk1
  have hHs := hHs.same hk1
  obtain rfl : r_5 = (nhS (helpB z (z.2.2.2 i)) (nhN 0) 0) := hw
  refine lv_i2l (v := (nhS (helpB z (z.2.2.2 i)) (nhN 0) 0).toInt64) hx hb dX5_hashedGuesses_37 rfl ?_
  refine va_calll (va_runS (As := [.long ((31 * (31 * h0 + (((getS (mixS z.1 z.2.1 100) (z.2.2.2 i).2).1).toInt64)) + ((rankQ (getS (mixS z.1 z.2.1 100) (z.2.2.2 i).2).2).toInt64))), .long ((nhS (helpB z (z.2.2.2 i)) (nhN 0) 0).toInt64)]) (rest := []) ⟨hx, hb, hml, hown, hts⟩ (c_X5_hashed l (31 * (31 * h0 + (((getS (mixS z.1 z.2.1 100) (z.2.2.2 i).2).1).toInt64)) + ((rankQ (getS (mixS z.1 z.2.1 100) (z.2.2.2 i).2).2).toInt64)) ((nhS (helpB z (z.2.2.2 i)) (nhN 0) 0).toInt64)) (va_cwS 2 hts gX5_hashedGuesses_X5_hashed rfl rfl rfl (by decide +kernel) ⟨Nat.le_of_ble_eq_true rfl, Nat.le_of_ble_eq_true rfl⟩) ⟨wU_blind, fun U hU hW => ⟨rfl, trivial⟩⟩ rfl rfl hl.1 rfl (lv_room (Nat.le_of_ble_eq_true rfl)) dX5_hashedGuesses_38 ⟨Nat.zero_le _, Nat.zero_le _⟩) hS (fun q _ h => h.elim) (fun q h => h.elim) (fun r_6 uu t H_6 locs_6 ht hvm hw hB hz1 hk1 hS => ?_)
  have hM := hM.same hk1
  have hPa := hPa.same hk1
  have hEl := hEl.same hk1
  have hTr := hTr.same hk1
  have hN := hN.same hk1
  have hHi := hHi.same hk1
  have hHs := hHs.same hk1
  obtain rfl : r_6 = (31 * (31 * (31 * h0 + (((getS (mixS z.1 z.2.1 100) (z.2.2.2 i).2).1).toInt64)) + ((rankQ (getS (mixS z.1 z.2.1 100) (z.2.2.2 i).2).2).toInt64)) + ((nhS (helpB z (z.2.2.2 i)) (nhN 0) 0).toInt64)) := hw
  refine lv_lstore (lv' := [(4, .long ((31 * (31 * (31 * h0 + (((getS (mixS z.1 z.2.1 100) (z.2.2.2 i).2).1).toInt64)) + ((rankQ (getS (mixS z.1 z.2.1 100) (z.2.2.2 i).2).2).toInt64)) + ((nhS (helpB z (z.2.2.2 i)) (nhN 0) 0).toInt64)))), (0, .ref ((g 0))), (1, .long h0), (3, .ref ((off g 8 (3 + 3 * i))))]) hx hb dX5_hashedGuesses_41 hl (by decide) rfl (fun ls hl => ?_)
  refine lv_lload hx hb dX5_hashedGuesses_43 (lv_at hl 0 rfl) ?_
  refine lv_aload_n hx hb dX5_hashedGuesses_45 rfl (lv_at hl 1 rfl) ?_
  refine lv_aload_n hx hb dX5_hashedGuesses_46 rfl (lv_at hl 3 rfl) ?_
  refine lv_iconst (v := 5) hx hb dX5_hashedGuesses_47 (by decide) ?_
  refine lv_iconst (v := 0) hx hb dX5_hashedGuesses_48 (by decide) ?_
  refine va_calli (va_runV (As := [.ref ((off g 8 (3 + 3 * i))), .int 5, .int 0]) (rest := [.long ((31 * (31 * (31 * h0 + (((getS (mixS z.1 z.2.1 100) (z.2.2.2 i).2).1).toInt64)) + ((rankQ (getS (mixS z.1 z.2.1 100) (z.2.2.2 i).2).2).toInt64)) + ((nhS (helpB z (z.2.2.2 i)) (nhN 0) 0).toInt64)))]) ⟨hx, hb, hml, hown, hts⟩ (c_X5_mixesNeeded l E g ln bf z ke hs i (by omega) 5 (by decide) false) (cwV 3 hts gX5_hashedGuesses_X5_mixesNeeded rfl rfl rfl (by decide +kernel) ⟨Nat.le_of_ble_eq_true rfl, Nat.le_of_ble_eq_true rfl⟩) ⟨wSd.blind, (w_recv hK hM 0 (by decide) rfl (ci := 5) rfl), fun U hU hW => wSd.go ⟨ol, zs, ⟨hol, hke, hzs, hln, hnb2, hnb⟩, hM, ⟨⟨(pa.1, pa.2.1, pa.2.2), hPa⟩, ⟨(el.1, el.2), hEl⟩, ⟨tli, tq, hTr⟩⟩, hN, hHi, hHs⟩ hK hI hdg hS (fun q h => h) hU hW⟩ rfl rfl hl.1 rfl (lv_room (Nat.le_of_ble_eq_true rfl)) dX5_hashedGuesses_49 ⟨Nat.zero_le _, Nat.zero_le _⟩) hS (fun q _ h => h) (fun q h => h) (fun r_7 uu t H_7 locs_7 ht hvm hw hB hz1 hk1 hS => ?_)
  rw [ht] at hB
  obtain ⟨ol, zs, ⟨hol, hke, hzs, hln, hnb2, hnb⟩, hM, ⟨⟨pa, hPa⟩, ⟨el, hEl⟩, ⟨tli, tq, hTr⟩⟩, hN, hHi, hHs⟩ := hB
  have hN : stP E (off g 8) z.1 z.2.1 z.2.2.1 z.2.2.2 _ := hN
  obtain rfl : r_7 = (ndS z 5 false 100 0 (z.2.2.2 i).2) := hw
  refine lv_i2l (v := (ndS z 5 false 100 0 (z.2.2.2 i).2).toInt64) hx hb dX5_hashedGuesses_52 rfl ?_
  refine va_calll (va_runS (As := [.long ((31 * (31 * (31 * h0 + (((getS (mixS z.1 z.2.1 100) (z.2.2.2 i).2).1).toInt64)) + ((rankQ (getS (mixS z.1 z.2.1 100) (z.2.2.2 i).2).2).toInt64)) + ((nhS (helpB z (z.2.2.2 i)) (nhN 0) 0).toInt64))), .long ((ndS z 5 false 100 0 (z.2.2.2 i).2).toInt64)]) (rest := []) ⟨hx, hb, hml, hown, hts⟩ (c_X5_hashed l (31 * (31 * (31 * h0 + (((getS (mixS z.1 z.2.1 100) (z.2.2.2 i).2).1).toInt64)) + ((rankQ (getS (mixS z.1 z.2.1 100) (z.2.2.2 i).2).2).toInt64)) + ((nhS (helpB z (z.2.2.2 i)) (nhN 0) 0).toInt64)) ((ndS z 5 false 100 0 (z.2.2.2 i).2).toInt64)) (va_cwS 2 hts gX5_hashedGuesses_X5_hashed rfl rfl rfl (by decide +kernel) ⟨Nat.le_of_ble_eq_true rfl, Nat.le_of_ble_eq_true rfl⟩) ⟨wU_blind, fun U hU hW => ⟨rfl, trivial⟩⟩ rfl rfl hl.1 rfl (lv_room (Nat.le_of_ble_eq_true rfl)) dX5_hashedGuesses_53 ⟨Nat.zero_le _, Nat.zero_le _⟩) hS (fun q _ h => h.elim) (fun q h => h.elim) (fun r_8 uu t H_8 locs_8 ht hvm hw hB hz1 hk1 hS => ?_)
  have hM := hM.same hk1
  have hPa := hPa.same hk1
  have hEl := hEl.same hk1
  have hTr := hTr.same hk1
  have hN := hN.same hk1
  have hHi := hHi.same hk1
  have hHs := hHs.same hk1
  obtain rfl : r_8 = (31 * (31 * (31 * (31 * h0 + (((getS (mixS z.1 z.2.1 100) (z.2.2.2 i).2).1).toInt64)) + ((rankQ (getS (mixS z.1 z.2.1 100) (z.2.2.2 i).2).2).toInt64)) + ((nhS (helpB z (z.2.2.2 i)) (nhN 0) 0).toInt64)) + ((ndS z 5 false 100 0 (z.2.2.2 i).2).toInt64)) := hw
  refine lv_lstore (lv' := [(4, .long ((31 * (31 * (31 * (31 * h0 + (((getS (mixS z.1 z.2.1 100) (z.2.2.2 i).2).1).toInt64)) + ((rankQ (getS (mixS z.1 z.2.1 100) (z.2.2.2 i).2).2).toInt64)) + ((nhS (helpB z (z.2.2.2 i)) (nhN 0) 0).toInt64)) + ((ndS z 5 false 100 0 (z.2.2.2 i).2).toInt64)))), (0, .ref ((g 0))), (1, .long h0), (3, .ref ((off g 8 (3 + 3 * i))))]) hx hb dX5_hashedGuesses_56 hl (by decide) rfl (fun ls hl => ?_)
  refine lv_lload hx hb dX5_hashedGuesses_58 (lv_at hl 0 rfl) ?_
  refine lv_aload_n hx hb dX5_hashedGuesses_60 rfl (lv_at hl 1 rfl) ?_
  refine lv_aload_n hx hb dX5_hashedGuesses_61 rfl (lv_at hl 3 rfl) ?_
  refine lv_iconst (v := 5) hx hb dX5_hashedGuesses_62 (by decide) ?_
  refine lv_iconst (v := 1) hx hb dX5_hashedGuesses_63 (by decide) ?_
  refine va_calli (va_runV (As := [.ref ((off g 8 (3 + 3 * i))), .int 5, .int 1]) (rest := [.long ((31 * (31 * (31 * (31 * h0 + (((getS (mixS z.1 z.2.1 100) (z.2.2.2 i).2).1).toInt64)) + ((rankQ (getS (mixS z.1 z.2.1 100) (z.2.2.2 i).2).2).toInt64)) + ((nhS (helpB z (z.2.2.2 i)) (nhN 0) 0).toInt64)) + ((ndS z 5 false 100 0 (z.2.2.2 i).2).toInt64)))]) ⟨hx, hb, hml, hown, hts⟩ (c_X5_mixesNeeded l E g ln bf z ke hs i (by omega) 5 (by decide) true) (cwV 3 hts gX5_hashedGuesses_X5_mixesNeeded rfl rfl rfl (by decide +kernel) ⟨Nat.le_of_ble_eq_true rfl, Nat.le_of_ble_eq_true rfl⟩) ⟨wSd.blind, (w_recv hK hM 0 (by decide) rfl (ci := 5) rfl), fun U hU hW => wSd.go ⟨ol, zs, ⟨hol, hke, hzs, hln, hnb2, hnb⟩, hM, ⟨⟨(pa.1, pa.2.1, pa.2.2), hPa⟩, ⟨(el.1, el.2), hEl⟩, ⟨tli, tq, hTr⟩⟩, hN, hHi, hHs⟩ hK hI hdg hS (fun q h => h) hU hW⟩ rfl rfl hl.1 rfl (lv_room (Nat.le_of_ble_eq_true rfl)) dX5_hashedGuesses_64 ⟨Nat.zero_le _, Nat.zero_le _⟩) hS (fun q _ h => h) (fun q h => h) (fun r_9 uu t H_9 locs_9 ht hvm hw hB hz1 hk1 hS => ?_)
  rw [ht] at hB
  obtain ⟨ol, zs, ⟨hol, hke, hzs, hln, hnb2, hnb⟩, hM, ⟨⟨pa, hPa⟩, ⟨el, hEl⟩, ⟨tli, tq, hTr⟩⟩, hN, hHi, hHs⟩ := hB
  have hN : stP E (off g 8) z.1 z.2.1 z.2.2.1 z.2.2.2 _ := hN
  obtain rfl : r_9 = (ndS z 5 true 100 0 (z.2.2.2 i).2) := hw
  refine lv_i2l (v := (ndS z 5 true 100 0 (z.2.2.2 i).2).toInt64) hx hb dX5_hashedGuesses_67 rfl ?_
  refine va_calll (va_runS (As := [.long ((31 * (31 * (31 * (31 * h0 + (((getS (mixS z.1 z.2.1 100) (z.2.2.2 i).2).1).toInt64)) + ((rankQ (getS (mixS z.1 z.2.1 100) (z.2.2.2 i).2).2).toInt64)) + ((nhS (helpB z (z.2.2.2 i)) (nhN 0) 0).toInt64)) + ((ndS z 5 false 100 0 (z.2.2.2 i).2).toInt64))), .long ((ndS z 5 true 100 0 (z.2.2.2 i).2).toInt64)]) (rest := []) ⟨hx, hb, hml, hown, hts⟩ (c_X5_hashed l (31 * (31 * (31 * (31 * h0 + (((getS (mixS z.1 z.2.1 100) (z.2.2.2 i).2).1).toInt64)) + ((rankQ (getS (mixS z.1 z.2.1 100) (z.2.2.2 i).2).2).toInt64)) + ((nhS (helpB z (z.2.2.2 i)) (nhN 0) 0).toInt64)) + ((ndS z 5 false 100 0 (z.2.2.2 i).2).toInt64)) ((ndS z 5 true 100 0 (z.2.2.2 i).2).toInt64)) (va_cwS 2 hts gX5_hashedGuesses_X5_hashed rfl rfl rfl (by decide +kernel) ⟨Nat.le_of_ble_eq_true rfl, Nat.le_of_ble_eq_true rfl⟩) ⟨wU_blind, fun U hU hW => ⟨rfl, trivial⟩⟩ rfl rfl hl.1 rfl (lv_room (Nat.le_of_ble_eq_true rfl)) dX5_hashedGuesses_68 ⟨Nat.zero_le _, Nat.zero_le _⟩) hS (fun q _ h => h.elim) (fun q h => h.elim) (fun r_10 uu t H_10 locs_10 ht hvm hw hB hz1 hk1 hS => ?_)
  have hM := hM.same hk1
  have hPa := hPa.same hk1
  have hEl := hEl.same hk1
  have hTr := hTr.same hk1
  have hN := hN.same hk1
  have hHi := hHi.same hk1
  have hHs := hHs.same hk1
  obtain rfl : r_10 = (31 * (31 * (31 * (31 * (31 * h0 + (((getS (mixS z.1 z.2.1 100) (z.2.2.2 i).2).1).toInt64)) + ((rankQ (getS (mixS z.1 z.2.1 100) (z.2.2.2 i).2).2).toInt64)) + ((nhS (helpB z (z.2.2.2 i)) (nhN 0) 0).toInt64)) + ((ndS z 5 false 100 0 (z.2.2.2 i).2).toInt64)) + ((ndS z 5 true 100 0 (z.2.2.2 i).2).toInt64)) := hw
  refine lv_lstore (lv' := [(4, .long ((31 * (31 * (31 * (31 * (31 * h0 + (((getS (mixS z.1 z.2.1 100) (z.2.2.2 i).2).1).toInt64)) + ((rankQ (getS (mixS z.1 z.2.1 100) (z.2.2.2 i).2).2).toInt64)) + ((nhS (helpB z (z.2.2.2 i)) (nhN 0) 0).toInt64)) + ((ndS z 5 false 100 0 (z.2.2.2 i).2).toInt64)) + ((ndS z 5 true 100 0 (z.2.2.2 i).2).toInt64)))), (0, .ref ((g 0))), (1, .long h0), (3, .ref ((off g 8 (3 + 3 * i))))]) hx hb dX5_hashedGuesses_71 hl (by decide) rfl (fun ls hl => ?_)
  refine lv_lload hx hb dX5_hashedGuesses_73 (lv_at hl 0 rfl) ?_
  refine lv_aload_n hx hb dX5_hashedGuesses_75 rfl (lv_at hl 1 rfl) ?_
  refine lv_aload_n hx hb dX5_hashedGuesses_76 rfl (lv_at hl 3 rfl) ?_
  refine va_calli (va_runV (As := [.ref ((off g 8 (3 + 3 * i)))]) (rest := [.long ((31 * (31 * (31 * (31 * (31 * h0 + (((getS (mixS z.1 z.2.1 100) (z.2.2.2 i).2).1).toInt64)) + ((rankQ (getS (mixS z.1 z.2.1 100) (z.2.2.2 i).2).2).toInt64)) + ((nhS (helpB z (z.2.2.2 i)) (nhN 0) 0).toInt64)) + ((ndS z 5 false 100 0 (z.2.2.2 i).2).toInt64)) + ((ndS z 5 true 100 0 (z.2.2.2 i).2).toInt64)))]) ⟨hx, hb, hml, hown, hts⟩ (c_X5_foundIfEliminated l E g ln bf z ke hs i (by omega)) (cwV 1 hts gX5_hashedGuesses_X5_foundIfEliminated rfl rfl rfl (by decide +kernel) ⟨Nat.le_of_ble_eq_true rfl, Nat.le_of_ble_eq_true rfl⟩) ⟨wS.blind, (w_recv hK hM 0 (by decide) rfl (ci := 5) rfl), fun U hU hW => wS.go ⟨ol, zs, ⟨hol, hke, hzs, hln, hnb2, hnb⟩, hM, ⟨⟨(pa.1, pa.2.1, pa.2.2), hPa⟩, ⟨(el.1, el.2), hEl⟩, ⟨tli, tq, hTr⟩⟩, hN, hHi, hHs⟩ hK hI hU hW⟩ rfl rfl hl.1 rfl (lv_room (Nat.le_of_ble_eq_true rfl)) dX5_hashedGuesses_77 ⟨Nat.zero_le _, Nat.zero_le _⟩) hS (fun q _ h => h) (fun q h => h) (fun r_11 uu t H_11 locs_11 ht hvm hw hB hz1 hk1 hS => ?_)
  rw [ht] at hB
  obtain ⟨ol, zs, ⟨hol, hke, hzs, hln, hnb2, hnb⟩, hM, ⟨⟨pa, hPa⟩, ⟨el, hEl⟩, ⟨tli, tq, hTr⟩⟩, hN, hHi, hHs⟩ := hB
  have hN : stP E (off g 8) z.1 z.2.1 z.2.2.1 z.2.2.2 _ := hN
  obtain rfl : r_11 = (findS (z.2.2.2 i).2).2.2.2.2 := hw
  refine lv_i2l (v := ((findS (z.2.2.2 i).2).2.2.2.2).toInt64) hx hb dX5_hashedGuesses_80 rfl ?_
  refine va_calll (va_runS (As := [.long ((31 * (31 * (31 * (31 * (31 * h0 + (((getS (mixS z.1 z.2.1 100) (z.2.2.2 i).2).1).toInt64)) + ((rankQ (getS (mixS z.1 z.2.1 100) (z.2.2.2 i).2).2).toInt64)) + ((nhS (helpB z (z.2.2.2 i)) (nhN 0) 0).toInt64)) + ((ndS z 5 false 100 0 (z.2.2.2 i).2).toInt64)) + ((ndS z 5 true 100 0 (z.2.2.2 i).2).toInt64))), .long (((findS (z.2.2.2 i).2).2.2.2.2).toInt64)]) (rest := []) ⟨hx, hb, hml, hown, hts⟩ (c_X5_hashed l (31 * (31 * (31 * (31 * (31 * h0 + (((getS (mixS z.1 z.2.1 100) (z.2.2.2 i).2).1).toInt64)) + ((rankQ (getS (mixS z.1 z.2.1 100) (z.2.2.2 i).2).2).toInt64)) + ((nhS (helpB z (z.2.2.2 i)) (nhN 0) 0).toInt64)) + ((ndS z 5 false 100 0 (z.2.2.2 i).2).toInt64)) + ((ndS z 5 true 100 0 (z.2.2.2 i).2).toInt64)) (((findS (z.2.2.2 i).2).2.2.2.2).toInt64)) (va_cwS 2 hts gX5_hashedGuesses_X5_hashed rfl rfl rfl (by decide +kernel) ⟨Nat.le_of_ble_eq_true rfl, Nat.le_of_ble_eq_true rfl⟩) ⟨wU_blind, fun U hU hW => ⟨rfl, trivial⟩⟩ rfl rfl hl.1 rfl (lv_room (Nat.le_of_ble_eq_true rfl)) dX5_hashedGuesses_81 ⟨Nat.zero_le _, Nat.zero_le _⟩) hS (fun q _ h => h.elim) (fun q h => h.elim) (fun r_12 uu t H_12 locs_12 ht hvm hw hB hz1 hk1 hS => ?_)
  have hM := hM.same hk1
  have hPa := hPa.same hk1
  have hEl := hEl.same hk1
  have hTr := hTr.same hk1
  have hN := hN.same hk1
  have hHi := hHi.same hk1
  have hHs := hHs.same hk1
  obtain rfl : r_12 = (31 * (31 * (31 * (31 * (31 * (31 * h0 + (((getS (mixS z.1 z.2.1 100) (z.2.2.2 i).2).1).toInt64)) + ((rankQ (getS (mixS z.1 z.2.1 100) (z.2.2.2 i).2).2).toInt64)) + ((nhS (helpB z (z.2.2.2 i)) (nhN 0) 0).toInt64)) + ((ndS z 5 false 100 0 (z.2.2.2 i).2).toInt64)) + ((ndS z 5 true 100 0 (z.2.2.2 i).2).toInt64)) + (((findS (z.2.2.2 i).2).2.2.2.2).toInt64)) := hw
  refine lv_lstore (lv' := [(4, .long ((31 * (31 * (31 * (31 * (31 * (31 * h0 + (((getS (mixS z.1 z.2.1 100) (z.2.2.2 i).2).1).toInt64)) + ((rankQ (getS (mixS z.1 z.2.1 100) (z.2.2.2 i).2).2).toInt64)) + ((nhS (helpB z (z.2.2.2 i)) (nhN 0) 0).toInt64)) + ((ndS z 5 false 100 0 (z.2.2.2 i).2).toInt64)) + ((ndS z 5 true 100 0 (z.2.2.2 i).2).toInt64)) + (((findS (z.2.2.2 i).2).2.2.2.2).toInt64)))), (0, .ref ((g 0))), (1, .long h0), (3, .ref ((off g 8 (3 + 3 * i))))]) hx hb dX5_hashedGuesses_84 hl (by decide) rfl (fun ls hl => ?_)
  refine lv_lload hx hb dX5_hashedGuesses_86 (lv_at hl 0 rfl) ?_
  refine lv_aload_n hx hb dX5_hashedGuesses_88 rfl (lv_at hl 3 rfl) ?_
  have hRi := hN.2 i (by omega)
  obtain ⟨hlnI, lfI, hlfI, hPI⟩ := id hRi
  refine va_calld (va_runV (As := []) (rest := [.long ((31 * (31 * (31 * (31 * (31 * (31 * h0 + (((getS (mixS z.1 z.2.1 100) (z.2.2.2 i).2).1).toInt64)) + ((rankQ (getS (mixS z.1 z.2.1 100) (z.2.2.2 i).2).2).toInt64)) + ((nhS (helpB z (z.2.2.2 i)) (nhN 0) 0).toInt64)) + ((ndS z 5 false 100 0 (z.2.2.2 i).2).toInt64)) + ((ndS z 5 true 100 0 (z.2.2.2 i).2).toInt64)) + (((findS (z.2.2.2 i).2).2.2.2.2).toInt64)))]) ⟨hx, hb, hml, hown, hts⟩ (c_X3_share l E (rg (off g 8) i) (z.2.2.2 i).1 (z.2.2.2 i).2.1 (z.2.2.2 i).2.2.1 (z.2.2.2 i).2.2.2.1 (z.2.2.2 i).2.2.2.2.1 (z.2.2.2 i).2.2.2.2.2.1 (z.2.2.2 i).2.2.2.2.2.2) (cwV 0 hts gX5_hashedGuesses_X3_share rfl rfl rfl (by decide +kernel) ⟨Nat.le_of_ble_eq_true rfl, Nat.le_of_ble_eq_true rfl⟩) ⟨wS.blind, (w_recv hK hPI 0 (by decide) rfl (ci := 3) rfl), fun U hU hW => wS.go hRi hK (rg_I (off_I hI (by decide)) (by omega)) hU hW⟩ rfl rfl hl.1 rfl (lv_room (Nat.le_of_ble_eq_true rfl)) dX5_hashedGuesses_89 ⟨Nat.zero_le _, Nat.zero_le _⟩) hS (fun q _ h => h.elim) (fun q h => h.elim) (fun r_13 uu t H_13 locs_13 ht hvm hw hB hz1 hk1 hS => ?_)
  have hM := hM.same hk1
  have hPa := hPa.same hk1
  have hEl := hEl.same hk1
  have hTr := hTr.same hk1
  have hN := hN.same hk1
  have hHi := hHi.same hk1
  have hHs := hHs.same hk1
  obtain rfl : r_13 = (shF (z.2.2.2 i).2.2.2.2.1 (z.2.2.2 i).2.2.2.2.2.1 (z.2.2.2 i).2.2.2.2.2.2) := hw
  refine va_calll (va_runS (As := [.double ((shF (z.2.2.2 i).2.2.2.2.1 (z.2.2.2 i).2.2.2.2.2.1 (z.2.2.2 i).2.2.2.2.2.2))]) (rest := [.long ((31 * (31 * (31 * (31 * (31 * (31 * h0 + (((getS (mixS z.1 z.2.1 100) (z.2.2.2 i).2).1).toInt64)) + ((rankQ (getS (mixS z.1 z.2.1 100) (z.2.2.2 i).2).2).toInt64)) + ((nhS (helpB z (z.2.2.2 i)) (nhN 0) 0).toInt64)) + ((ndS z 5 false 100 0 (z.2.2.2 i).2).toInt64)) + ((ndS z 5 true 100 0 (z.2.2.2 i).2).toInt64)) + (((findS (z.2.2.2 i).2).2.2.2.2).toInt64)))]) ⟨hx, hb, hml, hown, hts⟩ (c_X5_bitsOf l (shF (z.2.2.2 i).2.2.2.2.1 (z.2.2.2 i).2.2.2.2.2.1 (z.2.2.2 i).2.2.2.2.2.2) (nn_shF _ _ _)) (va_cwS 1 hts gX5_hashedGuesses_X5_bitsOf rfl rfl rfl (by decide +kernel) ⟨Nat.le_of_ble_eq_true rfl, Nat.le_of_ble_eq_true rfl⟩) ⟨wU_blind, fun U hU hW => ⟨rfl, trivial⟩⟩ rfl rfl hl.1 rfl (lv_room (Nat.le_of_ble_eq_true rfl)) dX5_hashedGuesses_92 ⟨Nat.zero_le _, Nat.zero_le _⟩) hS (fun q _ h => h.elim) (fun q h => h.elim) (fun r_14 uu t H_14 locs_14 ht hvm hw hB hz1 hk1 hS => ?_)
  have hM := hM.same hk1
  have hPa := hPa.same hk1
  have hEl := hEl.same hk1
  have hTr := hTr.same hk1
  have hN := hN.same hk1
  have hHi := hHi.same hk1
  have hHs := hHs.same hk1
  obtain rfl : r_14 = (bcF (shF (z.2.2.2 i).2.2.2.2.1 (z.2.2.2 i).2.2.2.2.2.1 (z.2.2.2 i).2.2.2.2.2.2)) := hw
  refine va_calll (va_runS (As := [.long ((31 * (31 * (31 * (31 * (31 * (31 * h0 + (((getS (mixS z.1 z.2.1 100) (z.2.2.2 i).2).1).toInt64)) + ((rankQ (getS (mixS z.1 z.2.1 100) (z.2.2.2 i).2).2).toInt64)) + ((nhS (helpB z (z.2.2.2 i)) (nhN 0) 0).toInt64)) + ((ndS z 5 false 100 0 (z.2.2.2 i).2).toInt64)) + ((ndS z 5 true 100 0 (z.2.2.2 i).2).toInt64)) + (((findS (z.2.2.2 i).2).2.2.2.2).toInt64))), .long ((bcF (shF (z.2.2.2 i).2.2.2.2.1 (z.2.2.2 i).2.2.2.2.2.1 (z.2.2.2 i).2.2.2.2.2.2)))]) (rest := []) ⟨hx, hb, hml, hown, hts⟩ (c_X5_hashed l (31 * (31 * (31 * (31 * (31 * (31 * h0 + (((getS (mixS z.1 z.2.1 100) (z.2.2.2 i).2).1).toInt64)) + ((rankQ (getS (mixS z.1 z.2.1 100) (z.2.2.2 i).2).2).toInt64)) + ((nhS (helpB z (z.2.2.2 i)) (nhN 0) 0).toInt64)) + ((ndS z 5 false 100 0 (z.2.2.2 i).2).toInt64)) + ((ndS z 5 true 100 0 (z.2.2.2 i).2).toInt64)) + (((findS (z.2.2.2 i).2).2.2.2.2).toInt64)) (bcF (shF (z.2.2.2 i).2.2.2.2.1 (z.2.2.2 i).2.2.2.2.2.1 (z.2.2.2 i).2.2.2.2.2.2))) (va_cwS 2 hts gX5_hashedGuesses_X5_hashed rfl rfl rfl (by decide +kernel) ⟨Nat.le_of_ble_eq_true rfl, Nat.le_of_ble_eq_true rfl⟩) ⟨wU_blind, fun U hU hW => ⟨rfl, trivial⟩⟩ rfl rfl hl.1 rfl (lv_room (Nat.le_of_ble_eq_true rfl)) dX5_hashedGuesses_95 ⟨Nat.zero_le _, Nat.zero_le _⟩) hS (fun q _ h => h.elim) (fun q h => h.elim) (fun r_15 uu t H_15 locs_15 ht hvm hw hB hz1 hk1 hS => ?_)
  have hM := hM.same hk1
  have hPa := hPa.same hk1
  have hEl := hEl.same hk1
  have hTr := hTr.same hk1
  have hN := hN.same hk1
  have hHi := hHi.same hk1
  have hHs := hHs.same hk1
  obtain rfl : r_15 = (31 * (31 * (31 * (31 * (31 * (31 * (31 * h0 + (((getS (mixS z.1 z.2.1 100) (z.2.2.2 i).2).1).toInt64)) + ((rankQ (getS (mixS z.1 z.2.1 100) (z.2.2.2 i).2).2).toInt64)) + ((nhS (helpB z (z.2.2.2 i)) (nhN 0) 0).toInt64)) + ((ndS z 5 false 100 0 (z.2.2.2 i).2).toInt64)) + ((ndS z 5 true 100 0 (z.2.2.2 i).2).toInt64)) + (((findS (z.2.2.2 i).2).2.2.2.2).toInt64)) + (bcF (shF (z.2.2.2 i).2.2.2.2.1 (z.2.2.2 i).2.2.2.2.2.1 (z.2.2.2 i).2.2.2.2.2.2))) := hw
  exact W.lret (v := (31 * (31 * (31 * (31 * (31 * (31 * (31 * h0 + (((getS (mixS z.1 z.2.1 100) (z.2.2.2 i).2).1).toInt64)) + ((rankQ (getS (mixS z.1 z.2.1 100) (z.2.2.2 i).2).2).toInt64)) + ((nhS (helpB z (z.2.2.2 i)) (nhN 0) 0).toInt64)) + ((ndS z 5 false 100 0 (z.2.2.2 i).2).toInt64)) + ((ndS z 5 true 100 0 (z.2.2.2 i).2).toInt64)) + (((findS (z.2.2.2 i).2).2.2.2.2).toInt64)) + (bcF (shF (z.2.2.2 i).2.2.2.2.1 (z.2.2.2 i).2.2.2.2.2.1 (z.2.2.2 i).2.2.2.2.2.2)))) hx hb hr (fun t ht hW => ⟨⟨_, (), rfl, rfl, (by show MB E g ln bf z ke hs t.heap; rw [ht]; exact ⟨ol, zs, ⟨hol, hke, hzs, hln, hnb2, hnb⟩, hM, ⟨⟨(pa.1, pa.2.1, pa.2.2), hPa⟩, ⟨(el.1, el.2), hEl⟩, ⟨tli, tq, hTr⟩⟩, hN, hHi, hHs⟩)⟩, hS.F ht⟩) hS.2.2 dX5_hashedGuesses_98
set_option maxHeartbeats 4000000 in
set_option maxRecDepth 100000 in
theorem c_X5_digest (l : Launch) (E : wE) (g : Nat → Nat) (ln : Nat) (bf : Nat → Int32) (z : SS) (ke : Nat) (hs : Nat → SS) : Met l yX5_digest wsX5_digest ({ frames := 7, cells := 0, slots := 0, locals := 175 }) (va_Pc [.ref ((g 0))] (wSd E 94 g (wF 94 g) (MB E g ln bf z ke hs))) (va_Ql (fun (r : Int64) (_ : Unit) => r = dgF z ke ln bf) (fun _ t => MB E g ln bf z ke hs (t.heap)) (wF 94 g)) 0 0 (wF 94 g) := by
  refine Met.ofW (cc := cX5_digest) (maxL := 5) (ret := (some .long)) (by decide) rfl ?_
  intro p e s m args below meth c s₁ B hml hv
  obtain ⟨rfl, ⟨ol, zs, ⟨hol, hke, hzs, hln, hnb2, hnb⟩, hM, ⟨⟨pa, hPa⟩, ⟨el, hEl⟩, ⟨tli, tq, hTr⟩⟩, hN, hHi, hHs⟩, hK, hI, hdg⟩ := hv
  have hx := B.exec
  have hb := B.bytes
  have hr := B.returns
  have hts := atoms_spec (ws := wsX5_digest) B.pre
  have hown : s.vm.findClass RX5 = some m.cls := findClass_of_methodNamed B.named
  have hlocks := B.notSynchronized
  have hS : va_S (wF 94 g) s.heap s.heap [] := va_S.rf
  have hin4 : ∀ w ∈ wsX40, w ∈ wsX5_digest := by decide +kernel
  have hin5 : ∀ w ∈ wsX50, w ∈ wsX5_digest := by decide +kernel
  have hA : ∀ k, k < 94 → (wF 94 g) (g k) := wF_in
  have hl := lv_entry ([.ref ((g 0))]) (n := 5) (Nat.le_of_ble_eq_true rfl)
  rw [lg_entry_eq]
  generalize (lg_sl ([.ref ((g 0))]) ++ List.replicate (5 - (lg_sl ([.ref ((g 0))])).length) Slot.unset).toArray = ls at hl ⊢
  have hl : lv_has ls 5 [(0, .ref ((g 0)))] := hl
  have hN : stP E (off g 8) z.1 z.2.1 z.2.2.1 z.2.2.2 s.heap := hN
  refine lv_ldc2 hx hb hown (hts (.constantLong RX5 197 (3253)) (List.mem_of_getElem? (i := 1) rfl)) dX5_digest_0 ?_
  refine lv_lstore_n (lv' := [(1, .long 3253), (0, .ref ((g 0)))]) hx hb dX5_digest_3 rfl hl (by decide) rfl (fun ls hl => ?_)
  refine lv_iconst (v := 0) hx hb dX5_digest_4 (by decide) ?_
  refine lv_istore_n (lv' := [(3, .int 0), (1, .long 3253), (0, .ref ((g 0)))]) hx hb dX5_digest_5 rfl hl (by decide) rfl (fun ls hl => ?_)
  have L6 : ∀ (k : Nat) (j : Nat) (hv : Int64) (H : Heap) (locs : List Loc) (ls : Array Slot), j + k = 6 → hsN (fun j => countF z ke j) k j hv = dgA z ke → wP E 2 g (mbF E g ln bf) H → wP E 1 (off g 2) (paF pa.1 pa.2.1 pa.2.2) H → wP E 2 (off g 3) (elF E (off g 3) el.1 el.2) H → rcT E (off g 5) tli tq H → stP E (off g 8) z.1 z.2.1 z.2.2.1 z.2.2.2 H → wP E 2 (off g 20) (hiF E (off g 20) ol ke) H → hiS E (off g 20) zs H → va_S (wF 94 g) s.heap H locs → lv_has ls 5 [(3, .int (nI j)), (1, .long hv), (0, .ref ((g 0)))] → W p l e (headSpec wsX5_digest ({ frames := 7, cells := 0, slots := 0, locals := 175 })).room s m ([.ref ((g 0))] : List Value).toArray below meth c H locs 0 0 (MQ below (va_Ql (fun (r : Int64) (_ : Unit) => r = dgF z ke ln bf) (fun _ t => MB E g ln bf z ke hs (t.heap)) (wF 94 g)) ([.ref ((g 0))] : List Value).toArray s 0 0 (wF 94 g)) (F0 m 6 ls []) := by
    intro k
    induction k with
    | zero =>
      intro j hv H locs ls hi hres hM hPa hEl hTr hN hHi hHs hS hl
      refine lv_iload_n hx hb dX5_digest_6 rfl (lv_at hl 0 rfl) ?_
      refine lv_bipush (v := 6) hx hb dX5_digest_7 (by decide) ?_
      refine lv_icmp_ge (tgt := 29) hx hb dX5_digest_9 (by decide) (fun c_1 => ?_) (fun c_1 => ?_)
      · have n_1 : 6 ≤ j := (nI_leI (a := 6) (b := j) (by omega) (by omega)).mp c_1
        refine lv_iconst (v := 0) hx hb dX5_digest_29 (by decide) ?_
        refine lv_istore_n (lv' := [(3, .int 0), (1, .long hv), (0, .ref ((g 0)))]) hx hb dX5_digest_30 rfl hl (by decide) rfl (fun ls hl => ?_)
        have hres0 : hv = dgA z ke := hres
        have L31 : ∀ (k2 : Nat) (j2 : Nat) (hv2 : Int64) (H : Heap) (locs : List Loc) (ls : Array Slot), j2 + k2 = z.1 → hsN z.2.1 k2 j2 hv2 = dgB z ke → wP E 2 g (mbF E g ln bf) H → wP E 1 (off g 2) (paF pa.1 pa.2.1 pa.2.2) H → wP E 2 (off g 3) (elF E (off g 3) el.1 el.2) H → rcT E (off g 5) tli tq H → stP E (off g 8) z.1 z.2.1 z.2.2.1 z.2.2.2 H → wP E 2 (off g 20) (hiF E (off g 20) ol ke) H → hiS E (off g 20) zs H → va_S (wF 94 g) s.heap H locs → lv_has ls 5 [(3, .int (nI j2)), (1, .long hv2), (0, .ref ((g 0)))] → W p l e (headSpec wsX5_digest ({ frames := 7, cells := 0, slots := 0, locals := 175 })).room s m ([.ref ((g 0))] : List Value).toArray below meth c H locs 0 0 (MQ below (va_Ql (fun (r : Int64) (_ : Unit) => r = dgF z ke ln bf) (fun _ t => MB E g ln bf z ke hs (t.heap)) (wF 94 g)) ([.ref ((g 0))] : List Value).toArray s 0 0 (wF 94 g)) (F0 m 31 ls []) := by
          intro k2
          induction k2 with
          | zero =>
            intro j2 hv2 H locs ls hi2 hres3 hM hPa hEl hTr hN hHi hHs hS hl
            refine lv_iload_n hx hb dX5_digest_31 rfl (lv_at hl 0 rfl) ?_
            refine lv_aload_n hx hb dX5_digest_32 rfl (lv_at hl 2 rfl) ?_
            refine w_get (C := RX5) (T := TX5) (N := 7) (ci := 5) (v := .ref ((g 8))) hx hb hts hin5 hown hK hM 0 (by decide) rfl rfl 0 (by decide) (hts (.fieldLink RX5 12 "MixedBlocks" "now" "LMixedBlocks$State;") (List.mem_of_getElem? (i := 2) rfl)) (fun _ h9 => h9) rfl dX5_digest_33 ?_
            refine w_getN (C := RX4) (T := TX4) (N := 4) (ci := 4) (v := .int (nI z.1)) hx hb hts hin4 hown hK hN.1 0 (by decide) rfl rfl 0 (by decide) nf_X5_63 (fun _ h9 => h9) rfl dX5_digest_36 ?_
            refine lv_icmp_ge (tgt := 62) hx hb dX5_digest_39 (by decide) (fun c_2 => ?_) (fun c_2 => ?_)
            · have n_2 : z.1 ≤ j2 := (nI_leI (a := z.1) (b := j2) (by omega) (by omega)).mp c_2
              refine lv_iconst (v := 0) hx hb dX5_digest_62 (by decide) ?_
              refine lv_istore_n (lv' := [(3, .int 0), (1, .long hv2), (0, .ref ((g 0)))]) hx hb dX5_digest_63 rfl hl (by decide) rfl (fun ls hl => ?_)
              have hres5 : hv2 = dgB z ke := hres3
              have L64 : ∀ (k3 : Nat) (i : Nat) (hv3 : Int64) (ol3 : Nat) (zs3 : Nat → SS) (pa3 : PA) (el3 : ES) (tli3 : Bool) (tq3 : RS) (H : Heap) (locs : List Loc) (ls : Array Slot), i + k3 = 3 → (ol3 < 6 ∧ ke ≤ 6 ∧ (∀ j, j < ke → zs3 ((ol3 + j) % 6) = hs j ∧ 2 ≤ (hs j).1 ∧ (hs j).1 ≤ 12) ∧ ln ≤ 60 ∧ 2 ≤ z.1 ∧ z.1 ≤ 12) → rcN (fun i h => hgF z (z.2.2.2 i) (hstF z (z.2.2.2 i) h)) k3 i hv3 = dgC z ke → wP E 2 g (mbF E g ln bf) H → wP E 1 (off g 2) (paF pa3.1 pa3.2.1 pa3.2.2) H → wP E 2 (off g 3) (elF E (off g 3) el3.1 el3.2) H → rcT E (off g 5) tli3 tq3 H → stP E (off g 8) z.1 z.2.1 z.2.2.1 z.2.2.2 H → wP E 2 (off g 20) (hiF E (off g 20) ol3 ke) H → hiS E (off g 20) zs3 H → va_S (wF 94 g) s.heap H locs → lv_has ls 5 [(3, .int (nI i)), (1, .long hv3), (0, .ref ((g 0)))] → W p l e (headSpec wsX5_digest ({ frames := 7, cells := 0, slots := 0, locals := 175 })).room s m ([.ref ((g 0))] : List Value).toArray below meth c H locs 0 0 (MQ below (va_Ql (fun (r : Int64) (_ : Unit) => r = dgF z ke ln bf) (fun _ t => MB E g ln bf z ke hs (t.heap)) (wF 94 g)) ([.ref ((g 0))] : List Value).toArray s 0 0 (wF 94 g)) (F0 m 64 ls []) := by
                intro k3
                induction k3 with
                | zero =>
                  intro i hv3 ol3 zs3 pa3 el3 tli3 tq3 H locs ls hi3 hrg3 hres6 hM hPa hEl hTr hN hHi hHs hS hl
                  refine lv_iload_n hx hb dX5_digest_64 rfl (lv_at hl 0 rfl) ?_
                  refine lv_iconst (v := 3) hx hb dX5_digest_65 (by decide) ?_
                  refine lv_icmp_ge (tgt := 104) hx hb dX5_digest_66 (by decide) (fun c_3 => ?_) (fun c_3 => ?_)
                  · have n_3 : 3 ≤ i := (nI_leI (a := 3) (b := i) (by omega) (by omega)).mp c_3
                    refine lv_lload_n hx hb dX5_digest_104 rfl (lv_at hl 1 rfl) ?_
                    refine lv_aload_n hx hb dX5_digest_105 rfl (lv_at hl 2 rfl) ?_
                    refine w_get (C := RX5) (T := TX5) (N := 7) (ci := 5) (v := .int (nI ln)) hx hb hts hin5 hown hK hM 0 (by decide) rfl rfl 3 (by decide) (hts (.fieldLink RX5 27 "MixedBlocks" "length" "I") (List.mem_of_getElem? (i := 3) rfl)) (fun _ h9 => h9) rfl dX5_digest_106 ?_
                    refine lv_i2l (v := (nI ln).toInt64) hx hb dX5_digest_109 rfl ?_
                    refine va_calll (va_runS (As := [.long hv3, .long ((nI ln).toInt64)]) (rest := []) ⟨hx, hb, hml, hown, hts⟩ (c_X5_hashed l hv3 ((nI ln).toInt64)) (va_cwS 2 hts gX5_digest_X5_hashed rfl rfl rfl (by decide +kernel) ⟨Nat.le_of_ble_eq_true rfl, Nat.le_of_ble_eq_true rfl⟩) ⟨wU_blind, fun U hU hW => ⟨rfl, trivial⟩⟩ rfl rfl hl.1 rfl (lv_room (Nat.le_of_ble_eq_true rfl)) dX5_digest_110 ⟨Nat.zero_le _, Nat.zero_le _⟩) hS (fun q _ h => h.elim) (fun q h => h.elim) (fun r_4 uu t H_4 locs_4 ht hvm hw hB hz1 hk1 hS => ?_)
                    have hM := hM.same hk1
                    have hPa := hPa.same hk1
                    have hEl := hEl.same hk1
                    have hTr := hTr.same hk1
                    have hN := hN.same hk1
                    have hHi := hHi.same hk1
                    have hHs := hHs.same hk1
                    obtain rfl : r_4 = (31 * hv3 + ((nI ln).toInt64)) := hw
                    refine lv_lstore_n (lv' := [(1, .long ((31 * hv3 + ((nI ln).toInt64)))), (3, .int (nI i)), (0, .ref ((g 0)))]) hx hb dX5_digest_113 rfl hl (by decide) rfl (fun ls hl => ?_)
                    refine lv_iconst (v := 0) hx hb dX5_digest_114 (by decide) ?_
                    refine lv_istore_n (lv' := [(3, .int 0), (1, .long ((31 * hv3 + ((nI ln).toInt64)))), (0, .ref ((g 0)))]) hx hb dX5_digest_115 rfl hl (by decide) rfl (fun ls hl => ?_)
                    have hres8 : hv3 = dgC z ke := hres6
                    have hln60 := hrg3.2.2.2.1
                    have L116 : ∀ (k4 : Nat) (j4 : Nat) (hv4 : Int64) (H : Heap) (locs : List Loc) (ls : Array Slot), j4 + k4 = ln → hsN bf k4 j4 hv4 = dgF z ke ln bf → wP E 2 g (mbF E g ln bf) H → wP E 1 (off g 2) (paF pa3.1 pa3.2.1 pa3.2.2) H → wP E 2 (off g 3) (elF E (off g 3) el3.1 el3.2) H → rcT E (off g 5) tli3 tq3 H → stP E (off g 8) z.1 z.2.1 z.2.2.1 z.2.2.2 H → wP E 2 (off g 20) (hiF E (off g 20) ol3 ke) H → hiS E (off g 20) zs3 H → va_S (wF 94 g) s.heap H locs → lv_has ls 5 [(3, .int (nI j4)), (1, .long hv4), (0, .ref ((g 0)))] → W p l e (headSpec wsX5_digest ({ frames := 7, cells := 0, slots := 0, locals := 175 })).room s m ([.ref ((g 0))] : List Value).toArray below meth c H locs 0 0 (MQ below (va_Ql (fun (r : Int64) (_ : Unit) => r = dgF z ke ln bf) (fun _ t => MB E g ln bf z ke hs (t.heap)) (wF 94 g)) ([.ref ((g 0))] : List Value).toArray s 0 0 (wF 94 g)) (F0 m 116 ls []) := by
                      intro k4
                      induction k4 with
                      | zero =>
                        intro j4 hv4 H locs ls hi4 hres9 hM hPa hEl hTr hN hHi hHs hS hl
                        refine lv_iload_n hx hb dX5_digest_116 rfl (lv_at hl 0 rfl) ?_
                        refine lv_aload_n hx hb dX5_digest_117 rfl (lv_at hl 2 rfl) ?_
                        refine w_get (C := RX5) (T := TX5) (N := 7) (ci := 5) (v := .int (nI ln)) hx hb hts hin5 hown hK hM 0 (by decide) rfl rfl 3 (by decide) (hts (.fieldLink RX5 27 "MixedBlocks" "length" "I") (List.mem_of_getElem? (i := 3) rfl)) (fun _ h9 => h9) rfl dX5_digest_118 ?_
                        refine lv_icmp_ge (tgt := 151) hx hb dX5_digest_121 (by decide) (fun c_5 => ?_) (fun c_5 => ?_)
                        · have n_5 : ln ≤ j4 := (nI_leI (a := ln) (b := j4) (by omega) (by omega)).mp c_5
                          refine lv_lload_n hx hb dX5_digest_151 rfl (lv_at hl 1 rfl) ?_
                          exact W.lret (v := hv4) hx hb hr (fun t ht hW => ⟨⟨_, (), rfl, hres9, (by show MB E g ln bf z ke hs t.heap; rw [ht]; exact ⟨ol3, zs3, hrg3, hM, ⟨⟨(pa3.1, pa3.2.1, pa3.2.2), hPa⟩, ⟨(el3.1, el3.2), hEl⟩, ⟨tli3, tq3, hTr⟩⟩, hN, hHi, hHs⟩)⟩, hS.F ht⟩) hS.2.2 dX5_digest_152
                        · have n_5 : ¬ ln ≤ j4 := fun z9 => c_5 ((nI_leI (a := ln) (b := j4) (by omega) (by omega)).mpr z9)
                          exfalso
                          omega
                      | succ k4 ih =>
                        intro j4 hv4 H locs ls hi4 hres9 hM hPa hEl hTr hN hHi hHs hS hl
                        refine lv_iload_n hx hb dX5_digest_116 rfl (lv_at hl 0 rfl) ?_
                        refine lv_aload_n hx hb dX5_digest_117 rfl (lv_at hl 2 rfl) ?_
                        refine w_get (C := RX5) (T := TX5) (N := 7) (ci := 5) (v := .int (nI ln)) hx hb hts hin5 hown hK hM 0 (by decide) rfl rfl 3 (by decide) (hts (.fieldLink RX5 27 "MixedBlocks" "length" "I") (List.mem_of_getElem? (i := 3) rfl)) (fun _ h9 => h9) rfl dX5_digest_118 ?_
                        refine lv_icmp_ge (tgt := 151) hx hb dX5_digest_121 (by decide) (fun c_6 => ?_) (fun c_6 => ?_)
                        · have n_6 : ln ≤ j4 := (nI_leI (a := ln) (b := j4) (by omega) (by omega)).mp c_6
                          exfalso
                          omega
                        · have n_6 : ¬ ln ≤ j4 := fun z9 => c_6 ((nI_leI (a := ln) (b := j4) (by omega) (by omega)).mpr z9)
                          refine lv_iload_n hx hb dX5_digest_124 rfl (lv_at hl 0 rfl) ?_
                          refine lv_aload_n hx hb dX5_digest_125 rfl (lv_at hl 2 rfl) ?_
                          refine w_get (C := RX5) (T := TX5) (N := 7) (ci := 5) (v := .ref ((g 1))) hx hb hts hin5 hown hK hM 0 (by decide) rfl rfl 2 (by decide) (hts (.fieldLink RX5 23 "MixedBlocks" "buffer" "[I") (List.mem_of_getElem? (i := 4) rfl)) (fun _ h9 => h9) rfl dX5_digest_126 ?_
                          refine w_alen (v := 60) hx hb hK hM 1 (by decide) rfl rfl dX5_digest_129 ?_
                          refine lv_icmp_ge (tgt := 151) hx hb dX5_digest_130 (by decide) (fun c_7 => ?_) (fun c_7 => ?_)
                          · have n_7 : 60 ≤ j4 := (nI_leI (a := 60) (b := j4) (by omega) (by omega)).mp c_7
                            exfalso
                            omega
                          · have n_7 : ¬ 60 ≤ j4 := fun z9 => c_7 ((nI_leI (a := 60) (b := j4) (by omega) (by omega)).mpr z9)
                            refine lv_lload_n hx hb dX5_digest_133 rfl (lv_at hl 1 rfl) ?_
                            refine lv_aload_n hx hb dX5_digest_134 rfl (lv_at hl 2 rfl) ?_
                            refine w_get (C := RX5) (T := TX5) (N := 7) (ci := 5) (v := .ref ((g 1))) hx hb hts hin5 hown hK hM 0 (by decide) rfl rfl 2 (by decide) (hts (.fieldLink RX5 23 "MixedBlocks" "buffer" "[I") (List.mem_of_getElem? (i := 4) rfl)) (fun _ h9 => h9) rfl dX5_digest_135 ?_
                            refine lv_iload_n hx hb dX5_digest_138 rfl (lv_at hl 0 rfl) ?_
                            refine w_iald hx hb hK hM 1 (by decide) rfl (vp_in_nI (by omega) (by decide)) dX5_digest_139 ?_
                            rw [nI_clamp (by omega)]
                            refine lv_i2l (v := (bf j4).toInt64) hx hb dX5_digest_140 rfl ?_
                            refine va_calll (va_runS (As := [.long hv4, .long ((bf j4).toInt64)]) (rest := []) ⟨hx, hb, hml, hown, hts⟩ (c_X5_hashed l hv4 ((bf j4).toInt64)) (va_cwS 2 hts gX5_digest_X5_hashed rfl rfl rfl (by decide +kernel) ⟨Nat.le_of_ble_eq_true rfl, Nat.le_of_ble_eq_true rfl⟩) ⟨wU_blind, fun U hU hW => ⟨rfl, trivial⟩⟩ rfl rfl hl.1 rfl (lv_room (Nat.le_of_ble_eq_true rfl)) dX5_digest_141 ⟨Nat.zero_le _, Nat.zero_le _⟩) hS (fun q _ h => h.elim) (fun q h => h.elim) (fun r_8 uu t H_8 locs_8 ht hvm hw hB hz1 hk1 hS => ?_)
                            have hM := hM.same hk1
                            have hPa := hPa.same hk1
                            have hEl := hEl.same hk1
                            have hTr := hTr.same hk1
                            have hN := hN.same hk1
                            have hHi := hHi.same hk1
                            have hHs := hHs.same hk1
                            obtain rfl : r_8 = (31 * hv4 + ((bf j4).toInt64)) := hw
                            refine lv_lstore_n (lv' := [(1, .long ((31 * hv4 + ((bf j4).toInt64)))), (3, .int (nI j4)), (0, .ref ((g 0)))]) hx hb dX5_digest_144 rfl hl (by decide) rfl (fun ls hl => ?_)
                            refine lv_iinc (v := (nI (j4 + 1))) (lv' := [(3, .int (nI (j4 + 1))), (1, .long ((31 * hv4 + ((bf j4).toInt64)))), (0, .ref ((g 0)))]) hx hb dX5_digest_145 hl (k := 1) rfl (nI_1 _) (by decide) rfl (fun ls hl => ?_)
                            refine lv_goto (tgt := 116) hx hb dX5_digest_148 (by decide) ?_
                            have hres10 : hsN bf k4 (j4 + 1) (31 * hv4 + ((bf j4).toInt64)) = dgF z ke ln bf := by rw [← hres9]; rfl
                            exact ih (j4 + 1) (31 * hv4 + ((bf j4).toInt64)) _ _ ls (by omega) hres10 hM hPa hEl hTr hN hHi hHs hS (lv_sub hl [0, 1, 2] rfl)
                    exact L116 ln 0 (31 * hv3 + ((nI ln).toInt64)) _ _ ls (by omega) (by rw [hres8]; rfl) hM hPa hEl hTr hN hHi hHs hS (lv_sub hl [0, 1, 2] rfl)
                  · have n_3 : ¬ 3 ≤ i := fun z9 => c_3 ((nI_leI (a := 3) (b := i) (by omega) (by omega)).mpr z9)
                    exfalso
                    omega
                | succ k3 ih =>
                  intro i hv3 ol3 zs3 pa3 el3 tli3 tq3 H locs ls hi3 hrg3 hres6 hM hPa hEl hTr hN hHi hHs hS hl
                  refine lv_iload_n hx hb dX5_digest_64 rfl (lv_at hl 0 rfl) ?_
                  refine lv_iconst (v := 3) hx hb dX5_digest_65 (by decide) ?_
                  refine lv_icmp_ge (tgt := 104) hx hb dX5_digest_66 (by decide) (fun c_9 => ?_) (fun c_9 => ?_)
                  · have n_9 : 3 ≤ i := (nI_leI (a := 3) (b := i) (by omega) (by omega)).mp c_9
                    exfalso
                    omega
                  · have n_9 : ¬ 3 ≤ i := fun z9 => c_9 ((nI_leI (a := 3) (b := i) (by omega) (by omega)).mpr z9)
                    refine lv_aload_n hx hb dX5_digest_69 rfl (lv_at hl 2 rfl) ?_
                    refine w_get (C := RX5) (T := TX5) (N := 7) (ci := 5) (v := .ref ((g 8))) hx hb hts hin5 hown hK hM 0 (by decide) rfl rfl 0 (by decide) (hts (.fieldLink RX5 12 "MixedBlocks" "now" "LMixedBlocks$State;") (List.mem_of_getElem? (i := 2) rfl)) (fun _ h9 => h9) rfl dX5_digest_70 ?_
                    refine lv_iload_n hx hb dX5_digest_73 rfl (lv_at hl 0 rfl) ?_
                    refine va_callq (va_runV (As := [.int (nI i)]) (rest := []) ⟨hx, hb, hml, hown, hts⟩ (c_X4_receiverAt l E (off g 8) z.1 z.2.1 z.2.2.1 z.2.2.2 (nI i)) (cwV 1 hts gX5_digest_X4_receiverAt rfl rfl rfl (by decide +kernel) ⟨Nat.le_of_ble_eq_true rfl, Nat.le_of_ble_eq_true rfl⟩) ⟨wS.blind, (w_recv hK hN.1 0 (by decide) rfl (ci := 4) rfl), fun U hU hW => wS.go hN hK (off_I hI (by decide)) hU hW⟩ rfl rfl hl.1 rfl (lv_room (Nat.le_of_ble_eq_true rfl)) dX5_digest_74 ⟨Nat.zero_le _, Nat.zero_le _⟩) hS (fun q _ h => h.elim) (fun q h => h.elim) (fun r_10 uu t H_10 locs_10 ht hvm hw hB hz1 hk1 hS => ?_)
                    have hM := hM.same hk1
                    have hPa := hPa.same hk1
                    have hEl := hEl.same hk1
                    have hTr := hTr.same hk1
                    have hN := hN.same hk1
                    have hHi := hHi.same hk1
                    have hHs := hHs.same hk1
                    obtain rfl : r_10 = (if nI i < 0 then none else if (3 : Int32) ≤ nI i then none else some (off g 8 (3 + 3 * (nI i).toNatClampNeg))) := hw
                    rw [if_neg (nI_pos (by omega)), if_neg (show ¬ (3 : Int32) ≤ nI i from fun z9 => absurd ((nI_leI (a := 3) (b := i) (by omega) (by omega)).mp z9) (by omega)), nI_clamp (by omega)]
                    refine lv_astore (lv' := [(4, .ref ((off g 8 (3 + 3 * i)))), (3, .int (nI i)), (1, .long hv3), (0, .ref ((g 0)))]) hx hb dX5_digest_77 hl (by decide) rfl (fun ls hl => ?_)
                    refine lv_aload hx hb dX5_digest_79 (lv_at hl 0 rfl) ?_
                    refine lv_ifnull hx hb dX5_digest_81 ?_
                    refine lv_aload_n hx hb dX5_digest_84 rfl (lv_at hl 3 rfl) ?_
                    refine lv_aload_n hx hb dX5_digest_85 rfl (lv_at hl 3 rfl) ?_
                    refine lv_lload_n hx hb dX5_digest_86 rfl (lv_at hl 2 rfl) ?_
                    refine lv_aload hx hb dX5_digest_87 (lv_at hl 0 rfl) ?_
                    refine va_calll (va_runV (As := [.long hv3, .ref ((off g 8 (3 + 3 * i)))]) (rest := [.ref ((g 0))]) ⟨hx, hb, hml, hown, hts⟩ (c_X5_hashedState l E g ln bf z ke hs i (by omega) hv3) (cwV 2 hts gX5_digest_X5_hashedState rfl rfl rfl (by decide +kernel) ⟨Nat.le_of_ble_eq_true rfl, Nat.le_of_ble_eq_true rfl⟩) ⟨wS.blind, (w_recv hK hM 0 (by decide) rfl (ci := 5) rfl), fun U hU hW => wS.go ⟨ol3, zs3, hrg3, hM, ⟨⟨(pa3.1, pa3.2.1, pa3.2.2), hPa⟩, ⟨(el3.1, el3.2), hEl⟩, ⟨tli3, tq3, hTr⟩⟩, hN, hHi, hHs⟩ hK hI hU hW⟩ rfl rfl hl.1 rfl (lv_room (Nat.le_of_ble_eq_true rfl)) dX5_digest_89 ⟨Nat.zero_le _, Nat.zero_le _⟩) hS (fun q _ h => h) (fun q h => h) (fun r_11 uu t H_11 locs_11 ht hvm hw hB hz1 hk1 hS => ?_)
                    rw [ht] at hB
                    obtain ⟨ol5, zs5, hrg5, hM, ⟨⟨pa5, hPa⟩, ⟨el5, hEl⟩, ⟨tli5, tq5, hTr⟩⟩, hN, hHi, hHs⟩ := hB
                    have hN : stP E (off g 8) z.1 z.2.1 z.2.2.1 z.2.2.2 _ := hN
                    obtain rfl : r_11 = (hstF z (z.2.2.2 i) hv3) := hw
                    refine lv_aload hx hb dX5_digest_92 (lv_at hl 0 rfl) ?_
                    refine va_calll (va_runV (As := [.long ((hstF z (z.2.2.2 i) hv3)), .ref ((off g 8 (3 + 3 * i)))]) (rest := []) ⟨hx, hb, hml, hown, hts⟩ (c_X5_hashedGuesses l E g ln bf z ke hs i (by omega) (hstF z (z.2.2.2 i) hv3)) (cwV 2 hts gX5_digest_X5_hashedGuesses rfl rfl rfl (by decide +kernel) ⟨Nat.le_of_ble_eq_true rfl, Nat.le_of_ble_eq_true rfl⟩) ⟨wSd.blind, (w_recv hK hM 0 (by decide) rfl (ci := 5) rfl), fun U hU hW => wSd.go ⟨ol5, zs5, hrg5, hM, ⟨⟨(pa5.1, pa5.2.1, pa5.2.2), hPa⟩, ⟨(el5.1, el5.2), hEl⟩, ⟨tli5, tq5, hTr⟩⟩, hN, hHi, hHs⟩ hK hI hdg hS (fun q h => h) hU hW⟩ rfl rfl hl.1 rfl (lv_room (Nat.le_of_ble_eq_true rfl)) dX5_digest_94 ⟨Nat.zero_le _, Nat.zero_le _⟩) hS (fun q _ h => h) (fun q h => h) (fun r_12 uu t H_12 locs_12 ht hvm hw hB hz1 hk1 hS => ?_)
                    rw [ht] at hB
                    obtain ⟨ol4, zs4, hrg4, hM, ⟨⟨pa4, hPa⟩, ⟨el4, hEl⟩, ⟨tli4, tq4, hTr⟩⟩, hN, hHi, hHs⟩ := hB
                    have hN : stP E (off g 8) z.1 z.2.1 z.2.2.1 z.2.2.2 _ := hN
                    obtain rfl : r_12 = (hgF z (z.2.2.2 i) (hstF z (z.2.2.2 i) hv3)) := hw
                    refine lv_lstore_n (lv' := [(1, .long ((hgF z (z.2.2.2 i) (hstF z (z.2.2.2 i) hv3)))), (4, .ref ((off g 8 (3 + 3 * i)))), (3, .int (nI i)), (0, .ref ((g 0)))]) hx hb dX5_digest_97 rfl hl (by decide) rfl (fun ls hl => ?_)
                    refine lv_iinc (v := (nI (i + 1))) (lv' := [(3, .int (nI (i + 1))), (1, .long ((hgF z (z.2.2.2 i) (hstF z (z.2.2.2 i) hv3)))), (4, .ref ((off g 8 (3 + 3 * i)))), (0, .ref ((g 0)))]) hx hb dX5_digest_98 hl (k := 2) rfl (nI_1 _) (by decide) rfl (fun ls hl => ?_)
                    refine lv_goto (tgt := 64) hx hb dX5_digest_101 (by decide) ?_
                    have hres7 : rcN (fun i h => hgF z (z.2.2.2 i) (hstF z (z.2.2.2 i) h)) k3 (i + 1) (hgF z (z.2.2.2 i) (hstF z (z.2.2.2 i) hv3)) = dgC z ke := by rw [← hres6]; rfl
                    exact ih (i + 1) (hgF z (z.2.2.2 i) (hstF z (z.2.2.2 i) hv3)) ol4 zs4 pa4 el4 tli4 tq4 _ _ ls (by omega) hrg4 hres7 hM hPa hEl hTr hN hHi hHs hS (lv_sub hl [0, 1, 3] rfl)
              exact L64 3 0 hv2 ol zs pa el tli tq _ _ ls rfl ⟨hol, hke, hzs, hln, hnb2, hnb⟩ (by rw [hres5]; rfl) hM hPa hEl hTr hN hHi hHs hS (lv_sub hl [0, 1, 2] rfl)
            · have n_2 : ¬ z.1 ≤ j2 := fun z9 => c_2 ((nI_leI (a := z.1) (b := j2) (by omega) (by omega)).mpr z9)
              exfalso
              omega
          | succ k2 ih =>
            intro j2 hv2 H locs ls hi2 hres3 hM hPa hEl hTr hN hHi hHs hS hl
            refine lv_iload_n hx hb dX5_digest_31 rfl (lv_at hl 0 rfl) ?_
            refine lv_aload_n hx hb dX5_digest_32 rfl (lv_at hl 2 rfl) ?_
            refine w_get (C := RX5) (T := TX5) (N := 7) (ci := 5) (v := .ref ((g 8))) hx hb hts hin5 hown hK hM 0 (by decide) rfl rfl 0 (by decide) (hts (.fieldLink RX5 12 "MixedBlocks" "now" "LMixedBlocks$State;") (List.mem_of_getElem? (i := 2) rfl)) (fun _ h9 => h9) rfl dX5_digest_33 ?_
            refine w_getN (C := RX4) (T := TX4) (N := 4) (ci := 4) (v := .int (nI z.1)) hx hb hts hin4 hown hK hN.1 0 (by decide) rfl rfl 0 (by decide) nf_X5_63 (fun _ h9 => h9) rfl dX5_digest_36 ?_
            refine lv_icmp_ge (tgt := 62) hx hb dX5_digest_39 (by decide) (fun c_13 => ?_) (fun c_13 => ?_)
            · have n_13 : z.1 ≤ j2 := (nI_leI (a := z.1) (b := j2) (by omega) (by omega)).mp c_13
              exfalso
              omega
            · have n_13 : ¬ z.1 ≤ j2 := fun z9 => c_13 ((nI_leI (a := z.1) (b := j2) (by omega) (by omega)).mpr z9)
              refine lv_lload_n hx hb dX5_digest_42 rfl (lv_at hl 1 rfl) ?_
              refine lv_aload_n hx hb dX5_digest_43 rfl (lv_at hl 2 rfl) ?_
              refine w_get (C := RX5) (T := TX5) (N := 7) (ci := 5) (v := .ref ((g 8))) hx hb hts hin5 hown hK hM 0 (by decide) rfl rfl 0 (by decide) (hts (.fieldLink RX5 12 "MixedBlocks" "now" "LMixedBlocks$State;") (List.mem_of_getElem? (i := 2) rfl)) (fun _ h9 => h9) rfl dX5_digest_44 ?_
              refine lv_iload_n hx hb dX5_digest_47 rfl (lv_at hl 0 rfl) ?_
              refine va_calli (va_runV (As := [.int (nI j2)]) (rest := [.long hv2]) ⟨hx, hb, hml, hown, hts⟩ (c_X4_valueAt l E (off g 8) z.1 z.2.1 z.2.2.1 z.2.2.2 j2 (by omega)) (cwV 1 hts gX5_digest_X4_valueAt rfl rfl rfl (by decide +kernel) ⟨Nat.le_of_ble_eq_true rfl, Nat.le_of_ble_eq_true rfl⟩) ⟨wS.blind, (w_recv hK hN.1 0 (by decide) rfl (ci := 4) rfl), fun U hU hW => wS.go hN hK (off_I hI (by decide)) hU hW⟩ rfl rfl hl.1 rfl (lv_room (Nat.le_of_ble_eq_true rfl)) dX5_digest_48 ⟨Nat.zero_le _, Nat.zero_le _⟩) hS (fun q _ h => h.elim) (fun q h => h.elim) (fun r_14 uu t H_14 locs_14 ht hvm hw hB hz1 hk1 hS => ?_)
              have hM := hM.same hk1
              have hPa := hPa.same hk1
              have hEl := hEl.same hk1
              have hTr := hTr.same hk1
              have hN := hN.same hk1
              have hHi := hHi.same hk1
              have hHs := hHs.same hk1
              obtain rfl : r_14 = (z.2.1 j2) := hw
              refine lv_i2l (v := (z.2.1 j2).toInt64) hx hb dX5_digest_51 rfl ?_
              refine va_calll (va_runS (As := [.long hv2, .long ((z.2.1 j2).toInt64)]) (rest := []) ⟨hx, hb, hml, hown, hts⟩ (c_X5_hashed l hv2 ((z.2.1 j2).toInt64)) (va_cwS 2 hts gX5_digest_X5_hashed rfl rfl rfl (by decide +kernel) ⟨Nat.le_of_ble_eq_true rfl, Nat.le_of_ble_eq_true rfl⟩) ⟨wU_blind, fun U hU hW => ⟨rfl, trivial⟩⟩ rfl rfl hl.1 rfl (lv_room (Nat.le_of_ble_eq_true rfl)) dX5_digest_52 ⟨Nat.zero_le _, Nat.zero_le _⟩) hS (fun q _ h => h.elim) (fun q h => h.elim) (fun r_15 uu t H_15 locs_15 ht hvm hw hB hz1 hk1 hS => ?_)
              have hM := hM.same hk1
              have hPa := hPa.same hk1
              have hEl := hEl.same hk1
              have hTr := hTr.same hk1
              have hN := hN.same hk1
              have hHi := hHi.same hk1
              have hHs := hHs.same hk1
              obtain rfl : r_15 = (31 * hv2 + ((z.2.1 j2).toInt64)) := hw
              refine lv_lstore_n (lv' := [(1, .long ((31 * hv2 + ((z.2.1 j2).toInt64)))), (3, .int (nI j2)), (0, .ref ((g 0)))]) hx hb dX5_digest_55 rfl hl (by decide) rfl (fun ls hl => ?_)
              refine lv_iinc (v := (nI (j2 + 1))) (lv' := [(3, .int (nI (j2 + 1))), (1, .long ((31 * hv2 + ((z.2.1 j2).toInt64)))), (0, .ref ((g 0)))]) hx hb dX5_digest_56 hl (k := 1) rfl (nI_1 _) (by decide) rfl (fun ls hl => ?_)
              refine lv_goto (tgt := 31) hx hb dX5_digest_59 (by decide) ?_
              have hres4 : hsN z.2.1 k2 (j2 + 1) (31 * hv2 + (z.2.1 j2).toInt64) = dgB z ke := by rw [← hres3]; rfl
              exact ih (j2 + 1) (31 * hv2 + (z.2.1 j2).toInt64) _ _ ls (by omega) hres4 hM hPa hEl hTr hN hHi hHs hS (lv_sub hl [0, 1, 2] rfl)
        exact L31 z.1 0 hv _ _ ls (by omega) (by rw [hres0]; rfl) hM hPa hEl hTr hN hHi hHs hS (lv_sub hl [0, 1, 2] rfl)
      · have n_1 : ¬ 6 ≤ j := fun z9 => c_1 ((nI_leI (a := 6) (b := j) (by omega) (by omega)).mpr z9)
        exfalso
        omega
    | succ k ih =>
      intro j hv H locs ls hi hres hM hPa hEl hTr hN hHi hHs hS hl
      refine lv_iload_n hx hb dX5_digest_6 rfl (lv_at hl 0 rfl) ?_
      refine lv_bipush (v := 6) hx hb dX5_digest_7 (by decide) ?_
      refine lv_icmp_ge (tgt := 29) hx hb dX5_digest_9 (by decide) (fun c_16 => ?_) (fun c_16 => ?_)
      · have n_16 : 6 ≤ j := (nI_leI (a := 6) (b := j) (by omega) (by omega)).mp c_16
        exfalso
        omega
      · have n_16 : ¬ 6 ≤ j := fun z9 => c_16 ((nI_leI (a := 6) (b := j) (by omega) (by omega)).mpr z9)
        refine lv_lload_n hx hb dX5_digest_12 rfl (lv_at hl 1 rfl) ?_
        refine lv_aload_n hx hb dX5_digest_13 rfl (lv_at hl 2 rfl) ?_
        refine lv_iload_n hx hb dX5_digest_14 rfl (lv_at hl 0 rfl) ?_
        refine va_calli (va_runV (As := [.int (nI j)]) (rest := [.long hv]) ⟨hx, hb, hml, hown, hts⟩ (c_X5_countOf l E g ln bf z ke hs j (by omega)) (cwV 1 hts gX5_digest_X5_countOf rfl rfl rfl (by decide +kernel) ⟨Nat.le_of_ble_eq_true rfl, Nat.le_of_ble_eq_true rfl⟩) ⟨wS.blind, (w_recv hK hM 0 (by decide) rfl (ci := 5) rfl), fun U hU hW => wS.go ⟨ol, zs, ⟨hol, hke, hzs, hln, hnb2, hnb⟩, hM, ⟨⟨(pa.1, pa.2.1, pa.2.2), hPa⟩, ⟨(el.1, el.2), hEl⟩, ⟨tli, tq, hTr⟩⟩, hN, hHi, hHs⟩ hK hI hU hW⟩ rfl rfl hl.1 rfl (lv_room (Nat.le_of_ble_eq_true rfl)) dX5_digest_15 ⟨Nat.zero_le _, Nat.zero_le _⟩) hS (fun q _ h => h.elim) (fun q h => h.elim) (fun r_17 uu t H_17 locs_17 ht hvm hw hB hz1 hk1 hS => ?_)
        have hM := hM.same hk1
        have hPa := hPa.same hk1
        have hEl := hEl.same hk1
        have hTr := hTr.same hk1
        have hN := hN.same hk1
        have hHi := hHi.same hk1
        have hHs := hHs.same hk1
        obtain rfl : r_17 = (countF z ke j) := hw
        refine lv_i2l (v := (countF z ke j).toInt64) hx hb dX5_digest_18 rfl ?_
        refine va_calll (va_runS (As := [.long hv, .long ((countF z ke j).toInt64)]) (rest := []) ⟨hx, hb, hml, hown, hts⟩ (c_X5_hashed l hv ((countF z ke j).toInt64)) (va_cwS 2 hts gX5_digest_X5_hashed rfl rfl rfl (by decide +kernel) ⟨Nat.le_of_ble_eq_true rfl, Nat.le_of_ble_eq_true rfl⟩) ⟨wU_blind, fun U hU hW => ⟨rfl, trivial⟩⟩ rfl rfl hl.1 rfl (lv_room (Nat.le_of_ble_eq_true rfl)) dX5_digest_19 ⟨Nat.zero_le _, Nat.zero_le _⟩) hS (fun q _ h => h.elim) (fun q h => h.elim) (fun r_18 uu t H_18 locs_18 ht hvm hw hB hz1 hk1 hS => ?_)
        have hM := hM.same hk1
        have hPa := hPa.same hk1
        have hEl := hEl.same hk1
        have hTr := hTr.same hk1
        have hN := hN.same hk1
        have hHi := hHi.same hk1
        have hHs := hHs.same hk1
        obtain rfl : r_18 = (31 * hv + ((countF z ke j).toInt64)) := hw
        refine lv_lstore_n (lv' := [(1, .long ((31 * hv + ((countF z ke j).toInt64)))), (3, .int (nI j)), (0, .ref ((g 0)))]) hx hb dX5_digest_22 rfl hl (by decide) rfl (fun ls hl => ?_)
        refine lv_iinc (v := (nI (j + 1))) (lv' := [(3, .int (nI (j + 1))), (1, .long ((31 * hv + ((countF z ke j).toInt64)))), (0, .ref ((g 0)))]) hx hb dX5_digest_23 hl (k := 1) rfl (nI_1 _) (by decide) rfl (fun ls hl => ?_)
        refine lv_goto (tgt := 6) hx hb dX5_digest_26 (by decide) ?_
        have hres2 : hsN (fun j => countF z ke j) k (j + 1) (31 * hv + (countF z ke j).toInt64) = dgA z ke := by rw [← hres]; rfl
        exact ih (j + 1) (31 * hv + (countF z ke j).toInt64) _ _ ls (by omega) hres2 hM hPa hEl hTr hN hHi hHs hS (lv_sub hl [0, 1, 2] rfl)
  exact L6 6 0 3253 _ _ ls rfl rfl hM hPa hEl hTr hN hHi hHs hS (lv_sub hl [0, 1, 2] rfl)
