set_option maxHeartbeats 4000000 in
set_option maxRecDepth 100000 in
theorem c_X5_ifGot (l : Launch) (hst : l.stackTraces = false) (E : wE) (g : Nat → Nat) (ln : Nat) (bf : Nat → Int32) (z : SS) (ke : Nat) (hs : Nat → SS) (x y w0 : Int32) : vx_Met l yX5_ifGot wsX5_ifGot ({ frames := 7, cells := 3, slots := 18, locals := 148 }) (va_Pc [.ref ((g 0)), .int x, .int y, .int w0] (wSx E 94 g (wF 94 g) (MB E g ln bf z ke hs))) (va_Qi (fun (r : Int32) (_ : Unit) => r = if w0.toNatClampNeg = 0 then (getS (mixS z.1 z.2.1 y.toNatClampNeg) (z.2.2.2 x.toNatClampNeg).2).1 else rankQ (getS (mixS z.1 z.2.1 y.toNatClampNeg) (z.2.2.2 x.toNatClampNeg).2).2) (fun _ t => (vp_in x 3 ∧ vp_in y 10000 ∧ vp_in w0 2) ∧ MB E g ln bf z ke hs (t.heap)) (wF 94 g)) (vx_X (S := Unit) (fun _ => True) (fun Ex _ t => ((Ex = "java/lang/IndexOutOfBoundsException" ∧ ¬ vp_in x 3) ∨ (Ex = "java/lang/IllegalArgumentException" ∧ vp_in x 3 ∧ ¬ (vp_in y 10000 ∧ vp_in w0 2))) ∧ MB E g ln bf z ke hs (t.heap)) (wF 94 g)) 3 18 (wF 94 g) := by
  refine vx_ofW (cc := cX5_ifGot) (maxL := 5) (ret := (some .int)) (by decide) rfl ?_
  intro p e s m args below meth c s₁ B hml hno hv
  obtain ⟨rfl, ⟨ol, zs, ⟨hol, hke, hzs, hln, hnb2, hnb⟩, hM, ⟨⟨pa, hPa⟩, ⟨el, hEl⟩, ⟨tli, tq, hTr⟩⟩, hN, hHi, hHs⟩, hK, hI, hxe⟩ := hv
  have hx := B.exec
  have hb := B.bytes
  have hr := B.returns
  have hts := atoms_spec (ws := wsX5_ifGot) B.pre
  have hown : s.vm.findClass RX5 = some m.cls := findClass_of_methodNamed B.named
  have hlocks := B.notSynchronized
  have hS : va_S (wF 94 g) s.heap s.heap [] := va_S.rf
  have hl := lv_entry ([.ref ((g 0)), .int x, .int y, .int w0]) (n := 5) (Nat.le_of_ble_eq_true rfl)
  rw [lg_entry_eq]
  generalize (lg_sl ([.ref ((g 0)), .int x, .int y, .int w0]) ++ List.replicate (5 - (lg_sl ([.ref ((g 0)), .int x, .int y, .int w0])).length) Slot.unset).toArray = ls at hl ⊢
  have hl : lv_has ls 5 [(0, .ref ((g 0))), (1, .int x), (2, .int y), (3, .int w0)] := hl
  have hN : stP E (off g 8) z.1 z.2.1 z.2.2.1 z.2.2.2 s.heap := hN
  have hdg := hxe.2.2.2.2
  refine lv_aload_n hx hb dX5_ifGot_0 rfl (lv_at hl 0 rfl) ?_
  refine lv_iload_n hx hb dX5_ifGot_1 rfl (lv_at hl 1 rfl) ?_
  refine vx_callq (vx_runV (As := [.int x]) (rest := []) ⟨hx, hb, hml, hown, hts⟩ (c_X5_existing l hst E g ln bf z ke hs x) (cwV 1 hts gX5_ifGot_X5_existing rfl rfl rfl (by decide +kernel) ⟨Nat.le_of_ble_eq_true rfl, Nat.le_of_ble_eq_true rfl⟩) ⟨wSx.blind, (w_recv hK hM 0 (by decide) rfl (ci := 5) rfl), fun U hU hW => wSx.go ⟨ol, zs, ⟨hol, hke, hzs, hln, hnb2, hnb⟩, hM, ⟨⟨(pa.1, pa.2.1, pa.2.2), hPa⟩, ⟨(el.1, el.2), hEl⟩, ⟨tli, tq, hTr⟩⟩, hN, hHi, hHs⟩ hK hI hxe hS (fun q h => h) hU hW⟩ rfl rfl hl.1 rfl (lv_room (Nat.le_of_ble_eq_true rfl)) dX5_ifGot_2 ⟨Nat.le_of_ble_eq_true rfl, Nat.le_of_ble_eq_true rfl⟩) hS (fun q _ h => h) (fun q h => h) (fun q _ h => h) (fun E9 ce9 q9 uu t H_1 locs_1 ht hvm hpx hbx hz1 hk1 hS hc9 hv9 hf9 => ?_) (fun r_1 uu t H_1 locs_1 ht hvm hw hB hz1 hk1 hS => ?_)
  · exact vx_out (fun x hx => (hno x hx).elim) hlocks hc9 hv9 hf9 (fun t2 ht2 hvm2 => ⟨(), trivial, ⟨Or.inl ⟨hbx.1, hbx.2.1⟩, (by rw [ht2, ← ht]; exact hbx.2.2)⟩, hS.F ht2⟩) hS.2.2 (Nat.le_of_ble_eq_true rfl) (Nat.le_of_ble_eq_true rfl)
  rw [ht] at hB
  obtain ⟨hc_i, ⟨ol, zs, ⟨hol, hke, hzs, hln, hnb2, hnb⟩, hM, ⟨⟨pa, hPa⟩, ⟨el, hEl⟩, ⟨tli, tq, hTr⟩⟩, hN, hHi, hHs⟩⟩ := hB
  have hN : stP E (off g 8) z.1 z.2.1 z.2.2.1 z.2.2.2 _ := hN
  obtain rfl : r_1 = some (off g 8 (3 + 3 * x.toNatClampNeg)) := hw
  obtain ⟨i, hn_i, rfl⟩ := vp_in_of hc_i (show 3 < 2 ^ 31 by decide)
  rw [nI_clamp (show i < 2 ^ 31 by omega)]
  refine lv_astore (lv' := [(4, .ref ((off g 8 (3 + 3 * i)))), (0, .ref ((g 0))), (1, .int ((nI i))), (2, .int y), (3, .int w0)]) hx hb dX5_ifGot_5 hl (by decide) rfl (fun ls hl => ?_)
  refine lv_iload_n hx hb dX5_ifGot_7 rfl (lv_at hl 3 rfl) ?_
  refine vx_callv (vx_runS (As := [.int y]) (rest := []) ⟨hx, hb, hml, hown, hts⟩ (c_X5_checkMix l hst E y) (va_cwS 1 hts gX5_ifGot_X5_checkMix rfl rfl rfl (by decide +kernel) ⟨Nat.le_of_ble_eq_true rfl, Nat.le_of_ble_eq_true rfl⟩) ⟨wSx.blind, fun U hU hW => wSx.go trivial hK wI0 hxe hS (fun q h => h.elim) hU hW⟩ rfl rfl hl.1 rfl (lv_room (Nat.le_of_ble_eq_true rfl)) dX5_ifGot_8 ⟨Nat.le_of_ble_eq_true rfl, Nat.le_of_ble_eq_true rfl⟩) hS (fun q _ h => h.elim) (fun q h => h.elim) (fun q _ h => h.elim) (fun E9 ce9 q9 uu t H_2 locs_2 ht hvm hpx hbx hz1 hk1 hS hc9 hv9 hf9 => ?_) (fun uu t H_2 locs_2 ht hvm hw hB hz1 hk1 hS => ?_)
  · have hM := hM.same hk1
    have hPa := hPa.same hk1
    have hEl := hEl.same hk1
    have hTr := hTr.same hk1
    have hN := hN.same hk1
    have hHi := hHi.same hk1
    have hHs := hHs.same hk1
    exact vx_out (fun x hx => (hno x hx).elim) hlocks hc9 hv9 hf9 (fun t2 ht2 hvm2 => ⟨(), trivial, ⟨Or.inr ⟨hbx.1, hc_i, fun y => hbx.2 y.1⟩, (by rw [ht2]; exact ⟨ol, zs, ⟨hol, hke, hzs, hln, hnb2, hnb⟩, hM, ⟨⟨(pa.1, pa.2.1, pa.2.2), hPa⟩, ⟨(el.1, el.2), hEl⟩, ⟨tli, tq, hTr⟩⟩, hN, hHi, hHs⟩)⟩, hS.F ht2⟩) hS.2.2 (Nat.le_of_ble_eq_true rfl) (Nat.le_of_ble_eq_true rfl)
  have hc_k0 := hB
  have hM := hM.same hk1
  have hPa := hPa.same hk1
  have hEl := hEl.same hk1
  have hTr := hTr.same hk1
  have hN := hN.same hk1
  have hHi := hHi.same hk1
  have hHs := hHs.same hk1
  obtain ⟨k0, hn_k0, rfl⟩ := vp_in_of hc_k0 (show 10000 < 2 ^ 31 by decide)
  refine lv_iload_n hx hb dX5_ifGot_11 rfl (lv_at hl 4 rfl) ?_
  refine lv_iconst (v := 2) hx hb dX5_ifGot_12 (by decide) ?_
  refine vx_callv (vx_runS (As := [.int w0, .int 2]) (rest := []) ⟨hx, hb, hml, hown, hts⟩ (c_X5_checkWhat l hst E w0 2 (by decide)) (va_cwS 2 hts gX5_ifGot_X5_checkWhat rfl rfl rfl (by decide +kernel) ⟨Nat.le_of_ble_eq_true rfl, Nat.le_of_ble_eq_true rfl⟩) ⟨wSx.blind, fun U hU hW => wSx.go trivial hK wI0 hxe hS (fun q h => h.elim) hU hW⟩ rfl rfl hl.1 rfl (lv_room (Nat.le_of_ble_eq_true rfl)) dX5_ifGot_13 ⟨Nat.le_of_ble_eq_true rfl, Nat.le_of_ble_eq_true rfl⟩) hS (fun q _ h => h.elim) (fun q h => h.elim) (fun q _ h => h.elim) (fun E9 ce9 q9 uu t H_3 locs_3 ht hvm hpx hbx hz1 hk1 hS hc9 hv9 hf9 => ?_) (fun uu t H_3 locs_3 ht hvm hw hB hz1 hk1 hS => ?_)
  · have hM := hM.same hk1
    have hPa := hPa.same hk1
    have hEl := hEl.same hk1
    have hTr := hTr.same hk1
    have hN := hN.same hk1
    have hHi := hHi.same hk1
    have hHs := hHs.same hk1
    exact vx_out (fun x hx => (hno x hx).elim) hlocks hc9 hv9 hf9 (fun t2 ht2 hvm2 => ⟨(), trivial, ⟨Or.inr ⟨hbx.1, hc_i, fun y => hbx.2 y.2⟩, (by rw [ht2]; exact ⟨ol, zs, ⟨hol, hke, hzs, hln, hnb2, hnb⟩, hM, ⟨⟨(pa.1, pa.2.1, pa.2.2), hPa⟩, ⟨(el.1, el.2), hEl⟩, ⟨tli, tq, hTr⟩⟩, hN, hHi, hHs⟩)⟩, hS.F ht2⟩) hS.2.2 (Nat.le_of_ble_eq_true rfl) (Nat.le_of_ble_eq_true rfl)
  have hc_j := hB
  have hM := hM.same hk1
  have hPa := hPa.same hk1
  have hEl := hEl.same hk1
  have hTr := hTr.same hk1
  have hN := hN.same hk1
  have hHi := hHi.same hk1
  have hHs := hHs.same hk1
  obtain ⟨j, hn_j, rfl⟩ := vp_in_of hc_j (show 2 < 2 ^ 31 by decide)
  refine lv_iload_n hx hb dX5_ifGot_16 rfl (lv_at hl 4 rfl) ?_
  refine lv_if_ne (tgt := 30) hx hb dX5_ifGot_17 (by decide) (fun c_4 => ?_) (fun c_4 => ?_)
  · refine lv_aload_n hx hb dX5_ifGot_30 rfl (lv_at hl 1 rfl) ?_
    refine lv_aload hx hb dX5_ifGot_31 (lv_at hl 0 rfl) ?_
    refine lv_iload_n hx hb dX5_ifGot_33 rfl (lv_at hl 3 rfl) ?_
    refine va_calli (va_runV (As := [.ref ((off g 8 (3 + 3 * i))), .int ((nI k0))]) (rest := []) ⟨hx, hb, hml, hown, hts⟩ (c_X5_rankIfGot l E g ln bf z ke hs i (by omega) k0 (by omega)) (cwV 2 hts gX5_ifGot_X5_rankIfGot rfl rfl rfl (by decide +kernel) ⟨Nat.le_of_ble_eq_true rfl, Nat.le_of_ble_eq_true rfl⟩) ⟨wSd.blind, (w_recv hK hM 0 (by decide) rfl (ci := 5) rfl), fun U hU hW => wSd.go ⟨ol, zs, ⟨hol, hke, hzs, hln, hnb2, hnb⟩, hM, ⟨⟨(pa.1, pa.2.1, pa.2.2), hPa⟩, ⟨(el.1, el.2), hEl⟩, ⟨tli, tq, hTr⟩⟩, hN, hHi, hHs⟩ hK hI hdg hS (fun q h => h) hU hW⟩ rfl rfl hl.1 rfl (lv_room (Nat.le_of_ble_eq_true rfl)) dX5_ifGot_34 ⟨Nat.le_of_ble_eq_true rfl, Nat.le_of_ble_eq_true rfl⟩) hS (fun q _ h => h) (fun q h => h) (fun r_5 uu t H_5 locs_5 ht hvm hw hB hz1 hk1 hS => ?_)
    rw [ht] at hB
    obtain ⟨ol, zs, ⟨hol, hke, hzs, hln, hnb2, hnb⟩, hM, ⟨⟨pa, hPa⟩, ⟨el, hEl⟩, ⟨tli, tq, hTr⟩⟩, hN, hHi, hHs⟩ := hB
    have hN : stP E (off g 8) z.1 z.2.1 z.2.2.1 z.2.2.2 _ := hN
    obtain rfl : r_5 = (rankQ (getS (mixS z.1 z.2.1 k0) (z.2.2.2 i).2).2) := hw
    refine vx_ret ?_
    refine W.widen (k := 3) (n := 18) (Nat.le_of_ble_eq_true rfl) (Nat.le_of_ble_eq_true rfl) ?_
    have hclk0 : (nI k0).toNatClampNeg = k0 := nI_clamp (by omega)
    have hclj : (nI j).toNatClampNeg = j := nI_clamp (by omega)
    exact W.iret (v := (rankQ (getS (mixS z.1 z.2.1 k0) (z.2.2.2 i).2).2)) hx hb hr (fun t ht hW => ⟨⟨_, (), rfl, (by show _ = _; rw [hclk0, hclj, if_neg (fun y => c_4 (by rw [y]; rfl))]), (by show (vp_in (nI i) 3 ∧ vp_in (nI k0) 10000 ∧ vp_in (nI j) 2) ∧ MB E g ln bf z ke hs t.heap; rw [ht]; exact ⟨⟨hc_i, hc_k0, hc_j⟩, ⟨ol, zs, ⟨hol, hke, hzs, hln, hnb2, hnb⟩, hM, ⟨⟨(pa.1, pa.2.1, pa.2.2), hPa⟩, ⟨(el.1, el.2), hEl⟩, ⟨tli, tq, hTr⟩⟩, hN, hHi, hHs⟩⟩)⟩, hS.F ht⟩) hS.2.2 dX5_ifGot_37
  · refine lv_aload_n hx hb dX5_ifGot_20 rfl (lv_at hl 1 rfl) ?_
    refine lv_aload hx hb dX5_ifGot_21 (lv_at hl 0 rfl) ?_
    refine lv_iload_n hx hb dX5_ifGot_23 rfl (lv_at hl 3 rfl) ?_
    refine va_calli (va_runV (As := [.ref ((off g 8 (3 + 3 * i))), .int ((nI k0))]) (rest := []) ⟨hx, hb, hml, hown, hts⟩ (c_X5_foundIfGot l E g ln bf z ke hs i (by omega) k0 (by omega)) (cwV 2 hts gX5_ifGot_X5_foundIfGot rfl rfl rfl (by decide +kernel) ⟨Nat.le_of_ble_eq_true rfl, Nat.le_of_ble_eq_true rfl⟩) ⟨wSd.blind, (w_recv hK hM 0 (by decide) rfl (ci := 5) rfl), fun U hU hW => wSd.go ⟨ol, zs, ⟨hol, hke, hzs, hln, hnb2, hnb⟩, hM, ⟨⟨(pa.1, pa.2.1, pa.2.2), hPa⟩, ⟨(el.1, el.2), hEl⟩, ⟨tli, tq, hTr⟩⟩, hN, hHi, hHs⟩ hK hI hdg hS (fun q h => h) hU hW⟩ rfl rfl hl.1 rfl (lv_room (Nat.le_of_ble_eq_true rfl)) dX5_ifGot_24 ⟨Nat.le_of_ble_eq_true rfl, Nat.le_of_ble_eq_true rfl⟩) hS (fun q _ h => h) (fun q h => h) (fun r_6 uu t H_6 locs_6 ht hvm hw hB hz1 hk1 hS => ?_)
    rw [ht] at hB
    obtain ⟨ol, zs, ⟨hol, hke, hzs, hln, hnb2, hnb⟩, hM, ⟨⟨pa, hPa⟩, ⟨el, hEl⟩, ⟨tli, tq, hTr⟩⟩, hN, hHi, hHs⟩ := hB
    have hN : stP E (off g 8) z.1 z.2.1 z.2.2.1 z.2.2.2 _ := hN
    obtain rfl : r_6 = (getS (mixS z.1 z.2.1 k0) (z.2.2.2 i).2).1 := hw
    refine lv_goto (tgt := 37) hx hb dX5_ifGot_27 (by decide) ?_
    refine vx_ret ?_
    refine W.widen (k := 3) (n := 18) (Nat.le_of_ble_eq_true rfl) (Nat.le_of_ble_eq_true rfl) ?_
    have hclk0 : (nI k0).toNatClampNeg = k0 := nI_clamp (by omega)
    have hclj : (nI j).toNatClampNeg = j := nI_clamp (by omega)
    exact W.iret (v := ((getS (mixS z.1 z.2.1 k0) (z.2.2.2 i).2).1)) hx hb hr (fun t ht hW => ⟨⟨_, (), rfl, (by show _ = _; rw [hclk0, hclj, if_pos ((nI_eq (a := j) (b := 0) (by omega) (by omega)).mp c_4)]), (by show (vp_in (nI i) 3 ∧ vp_in (nI k0) 10000 ∧ vp_in (nI j) 2) ∧ MB E g ln bf z ke hs t.heap; rw [ht]; exact ⟨⟨hc_i, hc_k0, hc_j⟩, ⟨ol, zs, ⟨hol, hke, hzs, hln, hnb2, hnb⟩, hM, ⟨⟨(pa.1, pa.2.1, pa.2.2), hPa⟩, ⟨(el.1, el.2), hEl⟩, ⟨tli, tq, hTr⟩⟩, hN, hHi, hHs⟩⟩)⟩, hS.F ht⟩) hS.2.2 dX5_ifGot_37
set_option maxHeartbeats 4000000 in
set_option maxRecDepth 100000 in
theorem c_X5_helps (l : Launch) (hst : l.stackTraces = false) (E : wE) (g : Nat → Nat) (ln : Nat) (bf : Nat → Int32) (z : SS) (ke : Nat) (hs : Nat → SS) (x y : Int32) : vx_Met l yX5_helps wsX5_helps ({ frames := 7, cells := 2, slots := 12, locals := 149 }) (va_Pc [.ref ((g 0)), .int x, .int y] (wSx E 94 g (wF 94 g) (MB E g ln bf z ke hs))) (va_Qi (fun (r : Int32) (_ : Unit) => r = nhS (helpB z (z.2.2.2 x.toNatClampNeg)) (nhN y.toNatClampNeg) y.toNatClampNeg) (fun _ t => (vp_in x 3 ∧ vp_in y 10000) ∧ MB E g ln bf z ke hs (t.heap)) (wF 94 g)) (vx_X (S := Unit) (fun _ => True) (fun Ex _ t => ((Ex = "java/lang/IndexOutOfBoundsException" ∧ ¬ vp_in x 3) ∨ (Ex = "java/lang/IllegalArgumentException" ∧ vp_in x 3 ∧ ¬ (vp_in y 10000))) ∧ MB E g ln bf z ke hs (t.heap)) (wF 94 g)) 2 12 (wF 94 g) := by
  refine vx_ofW (cc := cX5_helps) (maxL := 4) (ret := (some .int)) (by decide) rfl ?_
  intro p e s m args below meth c s₁ B hml hno hv
  obtain ⟨rfl, ⟨ol, zs, ⟨hol, hke, hzs, hln, hnb2, hnb⟩, hM, ⟨⟨pa, hPa⟩, ⟨el, hEl⟩, ⟨tli, tq, hTr⟩⟩, hN, hHi, hHs⟩, hK, hI, hxe⟩ := hv
  have hx := B.exec
  have hb := B.bytes
  have hr := B.returns
  have hts := atoms_spec (ws := wsX5_helps) B.pre
  have hown : s.vm.findClass RX5 = some m.cls := findClass_of_methodNamed B.named
  have hlocks := B.notSynchronized
  have hS : va_S (wF 94 g) s.heap s.heap [] := va_S.rf
  have hl := lv_entry ([.ref ((g 0)), .int x, .int y]) (n := 4) (Nat.le_of_ble_eq_true rfl)
  rw [lg_entry_eq]
  generalize (lg_sl ([.ref ((g 0)), .int x, .int y]) ++ List.replicate (4 - (lg_sl ([.ref ((g 0)), .int x, .int y])).length) Slot.unset).toArray = ls at hl ⊢
  have hl : lv_has ls 4 [(0, .ref ((g 0))), (1, .int x), (2, .int y)] := hl
  have hN : stP E (off g 8) z.1 z.2.1 z.2.2.1 z.2.2.2 s.heap := hN
  have hdg := hxe.2.2.2.2
  refine lv_aload_n hx hb dX5_helps_0 rfl (lv_at hl 0 rfl) ?_
  refine lv_iload_n hx hb dX5_helps_1 rfl (lv_at hl 1 rfl) ?_
  refine vx_callq (vx_runV (As := [.int x]) (rest := []) ⟨hx, hb, hml, hown, hts⟩ (c_X5_existing l hst E g ln bf z ke hs x) (cwV 1 hts gX5_helps_X5_existing rfl rfl rfl (by decide +kernel) ⟨Nat.le_of_ble_eq_true rfl, Nat.le_of_ble_eq_true rfl⟩) ⟨wSx.blind, (w_recv hK hM 0 (by decide) rfl (ci := 5) rfl), fun U hU hW => wSx.go ⟨ol, zs, ⟨hol, hke, hzs, hln, hnb2, hnb⟩, hM, ⟨⟨(pa.1, pa.2.1, pa.2.2), hPa⟩, ⟨(el.1, el.2), hEl⟩, ⟨tli, tq, hTr⟩⟩, hN, hHi, hHs⟩ hK hI hxe hS (fun q h => h) hU hW⟩ rfl rfl hl.1 rfl (lv_room (Nat.le_of_ble_eq_true rfl)) dX5_helps_2 ⟨Nat.le_of_ble_eq_true rfl, Nat.le_of_ble_eq_true rfl⟩) hS (fun q _ h => h) (fun q h => h) (fun q _ h => h) (fun E9 ce9 q9 uu t H_1 locs_1 ht hvm hpx hbx hz1 hk1 hS hc9 hv9 hf9 => ?_) (fun r_1 uu t H_1 locs_1 ht hvm hw hB hz1 hk1 hS => ?_)
  · exact vx_out (fun x hx => (hno x hx).elim) hlocks hc9 hv9 hf9 (fun t2 ht2 hvm2 => ⟨(), trivial, ⟨Or.inl ⟨hbx.1, hbx.2.1⟩, (by rw [ht2, ← ht]; exact hbx.2.2)⟩, hS.F ht2⟩) hS.2.2 (Nat.le_of_ble_eq_true rfl) (Nat.le_of_ble_eq_true rfl)
  rw [ht] at hB
  obtain ⟨hc_i, ⟨ol, zs, ⟨hol, hke, hzs, hln, hnb2, hnb⟩, hM, ⟨⟨pa, hPa⟩, ⟨el, hEl⟩, ⟨tli, tq, hTr⟩⟩, hN, hHi, hHs⟩⟩ := hB
  have hN : stP E (off g 8) z.1 z.2.1 z.2.2.1 z.2.2.2 _ := hN
  obtain rfl : r_1 = some (off g 8 (3 + 3 * x.toNatClampNeg)) := hw
  obtain ⟨i, hn_i, rfl⟩ := vp_in_of hc_i (show 3 < 2 ^ 31 by decide)
  rw [nI_clamp (show i < 2 ^ 31 by omega)]
  refine lv_astore_n (lv' := [(3, .ref ((off g 8 (3 + 3 * i)))), (0, .ref ((g 0))), (1, .int ((nI i))), (2, .int y)]) hx hb dX5_helps_5 rfl hl (by decide) rfl (fun ls hl => ?_)
  refine lv_iload_n hx hb dX5_helps_6 rfl (lv_at hl 3 rfl) ?_
  refine vx_callv (vx_runS (As := [.int y]) (rest := []) ⟨hx, hb, hml, hown, hts⟩ (c_X5_checkMix l hst E y) (va_cwS 1 hts gX5_helps_X5_checkMix rfl rfl rfl (by decide +kernel) ⟨Nat.le_of_ble_eq_true rfl, Nat.le_of_ble_eq_true rfl⟩) ⟨wSx.blind, fun U hU hW => wSx.go trivial hK wI0 hxe hS (fun q h => h.elim) hU hW⟩ rfl rfl hl.1 rfl (lv_room (Nat.le_of_ble_eq_true rfl)) dX5_helps_7 ⟨Nat.le_of_ble_eq_true rfl, Nat.le_of_ble_eq_true rfl⟩) hS (fun q _ h => h.elim) (fun q h => h.elim) (fun q _ h => h.elim) (fun E9 ce9 q9 uu t H_2 locs_2 ht hvm hpx hbx hz1 hk1 hS hc9 hv9 hf9 => ?_) (fun uu t H_2 locs_2 ht hvm hw hB hz1 hk1 hS => ?_)
  · have hM := hM.same hk1
    have hPa := hPa.same hk1
    have hEl := hEl.same hk1
    have hTr := hTr.same hk1
    have hN := hN.same hk1
    have hHi := hHi.same hk1
    have hHs := hHs.same hk1
    exact vx_out (fun x hx => (hno x hx).elim) hlocks hc9 hv9 hf9 (fun t2 ht2 hvm2 => ⟨(), trivial, ⟨Or.inr ⟨hbx.1, hc_i, hbx.2⟩, (by rw [ht2]; exact ⟨ol, zs, ⟨hol, hke, hzs, hln, hnb2, hnb⟩, hM, ⟨⟨(pa.1, pa.2.1, pa.2.2), hPa⟩, ⟨(el.1, el.2), hEl⟩, ⟨tli, tq, hTr⟩⟩, hN, hHi, hHs⟩)⟩, hS.F ht2⟩) hS.2.2 (Nat.le_of_ble_eq_true rfl) (Nat.le_of_ble_eq_true rfl)
  have hc_k0 := hB
  have hM := hM.same hk1
  have hPa := hPa.same hk1
  have hEl := hEl.same hk1
  have hTr := hTr.same hk1
  have hN := hN.same hk1
  have hHi := hHi.same hk1
  have hHs := hHs.same hk1
  obtain ⟨k0, hn_k0, rfl⟩ := vp_in_of hc_k0 (show 10000 < 2 ^ 31 by decide)
  refine lv_aload_n hx hb dX5_helps_10 rfl (lv_at hl 1 rfl) ?_
  refine lv_aload_n hx hb dX5_helps_11 rfl (lv_at hl 0 rfl) ?_
  refine lv_iload_n hx hb dX5_helps_12 rfl (lv_at hl 3 rfl) ?_
  refine va_calli (va_runV (As := [.ref ((off g 8 (3 + 3 * i))), .int ((nI k0))]) (rest := []) ⟨hx, hb, hml, hown, hts⟩ (c_X5_nextHelp l E g ln bf z ke hs i (by omega) k0 (by omega)) (cwV 2 hts gX5_helps_X5_nextHelp rfl rfl rfl (by decide +kernel) ⟨Nat.le_of_ble_eq_true rfl, Nat.le_of_ble_eq_true rfl⟩) ⟨wSd.blind, (w_recv hK hM 0 (by decide) rfl (ci := 5) rfl), fun U hU hW => wSd.go ⟨ol, zs, ⟨hol, hke, hzs, hln, hnb2, hnb⟩, hM, ⟨⟨(pa.1, pa.2.1, pa.2.2), hPa⟩, ⟨(el.1, el.2), hEl⟩, ⟨tli, tq, hTr⟩⟩, hN, hHi, hHs⟩ hK hI hdg hS (fun q h => h.elim) hU hW⟩ rfl rfl hl.1 rfl (lv_room (Nat.le_of_ble_eq_true rfl)) dX5_helps_13 ⟨Nat.le_of_ble_eq_true rfl, Nat.le_of_ble_eq_true rfl⟩) hS (fun q _ h => h.elim) (fun q h => h.elim) (fun r_3 uu t H_3 locs_3 ht hvm hw hB hz1 hk1 hS => ?_)
  have hM := hM.same hk1
  have hPa := hPa.same hk1
  have hEl := hEl.same hk1
  have hTr := hTr.same hk1
  have hN := hN.same hk1
  have hHi := hHi.same hk1
  have hHs := hHs.same hk1
  obtain rfl : r_3 = (nhS (helpB z (z.2.2.2 i)) (nhN k0) k0) := hw
  refine vx_ret ?_
  refine W.widen (k := 2) (n := 12) (Nat.le_of_ble_eq_true rfl) (Nat.le_of_ble_eq_true rfl) ?_
  have hclk0 : (nI k0).toNatClampNeg = k0 := nI_clamp (by omega)
  exact W.iret (v := (nhS (helpB z (z.2.2.2 i)) (nhN k0) k0)) hx hb hr (fun t ht hW => ⟨⟨_, (), rfl, (by show _ = _; rw [hclk0]), (by show (vp_in (nI i) 3 ∧ vp_in (nI k0) 10000) ∧ MB E g ln bf z ke hs t.heap; rw [ht]; exact ⟨⟨hc_i, hc_k0⟩, ⟨ol, zs, ⟨hol, hke, hzs, hln, hnb2, hnb⟩, hM, ⟨⟨(pa.1, pa.2.1, pa.2.2), hPa⟩, ⟨(el.1, el.2), hEl⟩, ⟨tli, tq, hTr⟩⟩, hN, hHi, hHs⟩⟩)⟩, hS.F ht⟩) hS.2.2 dX5_helps_16
theorem vin_neg {x : Int32} {n : Nat} (h : vp_in x n) (hx : x < 0) : False := h (Or.inl hx)
set_option maxHeartbeats 4000000 in
set_option maxRecDepth 100000 in
theorem c_X5_needs (l : Launch) (hst : l.stackTraces = false) (E : wE) (g : Nat → Nat) (ln : Nat) (bf : Nat → Int32) (z : SS) (ke : Nat) (hs : Nat → SS) (x y : Int32) (bb : Bool) : vx_Met l yX5_needs wsX5_needs ({ frames := 7, cells := 2, slots := 12, locals := 150 }) (va_Pc [.ref ((g 0)), .int x, .int y, .int ((bI bb))] (wSx E 94 g (wF 94 g) (MB E g ln bf z ke hs))) (va_Qi (fun (r : Int32) (_ : Unit) => r = ndS z y.toNatClampNeg bb 100 0 (z.2.2.2 x.toNatClampNeg).2) (fun _ t => (vp_in x 3 ∧ vp_in y 9900) ∧ MB E g ln bf z ke hs (t.heap)) (wF 94 g)) (vx_X (S := Unit) (fun _ => True) (fun Ex _ t => ((Ex = "java/lang/IndexOutOfBoundsException" ∧ ¬ vp_in x 3) ∨ (Ex = "java/lang/IllegalArgumentException" ∧ vp_in x 3 ∧ ¬ (vp_in y 9900))) ∧ MB E g ln bf z ke hs (t.heap)) (wF 94 g)) 2 12 (wF 94 g) := by
  refine vx_ofW (cc := cX5_needs) (maxL := 5) (ret := (some .int)) (by decide) rfl ?_
  intro p e s m args below meth c s₁ B hml hno hv
  obtain ⟨rfl, ⟨ol, zs, ⟨hol, hke, hzs, hln, hnb2, hnb⟩, hM, ⟨⟨pa, hPa⟩, ⟨el, hEl⟩, ⟨tli, tq, hTr⟩⟩, hN, hHi, hHs⟩, hK, hI, hxe⟩ := hv
  have hx := B.exec
  have hb := B.bytes
  have hr := B.returns
  have hts := atoms_spec (ws := wsX5_needs) B.pre
  have hown : s.vm.findClass RX5 = some m.cls := findClass_of_methodNamed B.named
  have hlocks := B.notSynchronized
  have hS : va_S (wF 94 g) s.heap s.heap [] := va_S.rf
  have hl := lv_entry ([.ref ((g 0)), .int x, .int y, .int ((bI bb))]) (n := 5) (Nat.le_of_ble_eq_true rfl)
  rw [lg_entry_eq]
  generalize (lg_sl ([.ref ((g 0)), .int x, .int y, .int ((bI bb))]) ++ List.replicate (5 - (lg_sl ([.ref ((g 0)), .int x, .int y, .int ((bI bb))])).length) Slot.unset).toArray = ls at hl ⊢
  have hl : lv_has ls 5 [(0, .ref ((g 0))), (1, .int x), (2, .int y), (3, .int ((bI bb)))] := hl
  have hN : stP E (off g 8) z.1 z.2.1 z.2.2.1 z.2.2.2 s.heap := hN
  have hdg := hxe.2.2.2.2
  refine lv_aload_n hx hb dX5_needs_0 rfl (lv_at hl 0 rfl) ?_
  refine lv_iload_n hx hb dX5_needs_1 rfl (lv_at hl 1 rfl) ?_
  refine vx_callq (vx_runV (As := [.int x]) (rest := []) ⟨hx, hb, hml, hown, hts⟩ (c_X5_existing l hst E g ln bf z ke hs x) (cwV 1 hts gX5_needs_X5_existing rfl rfl rfl (by decide +kernel) ⟨Nat.le_of_ble_eq_true rfl, Nat.le_of_ble_eq_true rfl⟩) ⟨wSx.blind, (w_recv hK hM 0 (by decide) rfl (ci := 5) rfl), fun U hU hW => wSx.go ⟨ol, zs, ⟨hol, hke, hzs, hln, hnb2, hnb⟩, hM, ⟨⟨(pa.1, pa.2.1, pa.2.2), hPa⟩, ⟨(el.1, el.2), hEl⟩, ⟨tli, tq, hTr⟩⟩, hN, hHi, hHs⟩ hK hI hxe hS (fun q h => h) hU hW⟩ rfl rfl hl.1 rfl (lv_room (Nat.le_of_ble_eq_true rfl)) dX5_needs_2 ⟨Nat.le_of_ble_eq_true rfl, Nat.le_of_ble_eq_true rfl⟩) hS (fun q _ h => h) (fun q h => h) (fun q _ h => h) (fun E9 ce9 q9 uu t H_1 locs_1 ht hvm hpx hbx hz1 hk1 hS hc9 hv9 hf9 => ?_) (fun r_1 uu t H_1 locs_1 ht hvm hw hB hz1 hk1 hS => ?_)
  · exact vx_out (fun x hx => (hno x hx).elim) hlocks hc9 hv9 hf9 (fun t2 ht2 hvm2 => ⟨(), trivial, ⟨Or.inl ⟨hbx.1, hbx.2.1⟩, (by rw [ht2, ← ht]; exact hbx.2.2)⟩, hS.F ht2⟩) hS.2.2 (Nat.le_of_ble_eq_true rfl) (Nat.le_of_ble_eq_true rfl)
  rw [ht] at hB
  obtain ⟨hc_i, ⟨ol, zs, ⟨hol, hke, hzs, hln, hnb2, hnb⟩, hM, ⟨⟨pa, hPa⟩, ⟨el, hEl⟩, ⟨tli, tq, hTr⟩⟩, hN, hHi, hHs⟩⟩ := hB
  have hN : stP E (off g 8) z.1 z.2.1 z.2.2.1 z.2.2.2 _ := hN
  obtain rfl : r_1 = some (off g 8 (3 + 3 * x.toNatClampNeg)) := hw
  obtain ⟨i, hn_i, rfl⟩ := vp_in_of hc_i (show 3 < 2 ^ 31 by decide)
  rw [nI_clamp (show i < 2 ^ 31 by omega)]
  refine lv_astore (lv' := [(4, .ref ((off g 8 (3 + 3 * i)))), (0, .ref ((g 0))), (1, .int ((nI i))), (2, .int y), (3, .int ((bI bb)))]) hx hb dX5_needs_5 hl (by decide) rfl (fun ls hl => ?_)
  refine lv_iload_n hx hb dX5_needs_7 rfl (lv_at hl 3 rfl) ?_
  refine lv_if_lt (tgt := 18) hx hb dX5_needs_8 (by decide) (fun c_2 => ?_) (fun c_2 => ?_)
  · exact w_throw hx hb hst hown (by decide +kernel) (hts (.classLink RX5 52 "java/lang/IllegalArgumentException") (List.mem_of_getElem? (i := 1) rfl)) (hts (.initialized "java/lang/IllegalArgumentException") (List.mem_of_getElem? (i := 2) rfl)) (List.mem_of_getElem? (i := 8) rfl) (fun w h => hts w (List.mem_cons_of_mem _ (List.mem_append_left _ (List.mem_append_right _ h)))) xb56 xo56 hxe hS (hl.1.trans hml.symm) dX5_needs_18 dX5_needs_21 dX5_needs_22 dX5_needs_24 dX5_needs_27 hno (Nat.le_of_ble_eq_true rfl) (Nat.le_of_ble_eq_true rfl) (Nat.le_of_ble_eq_true rfl) (Nat.le_of_ble_eq_true rfl) hlocks (fun t h1 h2 => ⟨(), trivial, ⟨Or.inr ⟨rfl, hc_i, (fun q => vin_neg q c_2)⟩, MB.new ⟨ol, zs, ⟨hol, hke, hzs, hln, hnb2, hnb⟩, hM, ⟨⟨(pa.1, pa.2.1, pa.2.2), hPa⟩, ⟨(el.1, el.2), hEl⟩, ⟨tli, tq, hTr⟩⟩, hN, hHi, hHs⟩ h1⟩, h2⟩) hS.2.2 (Nat.le_of_ble_eq_true rfl) (Nat.le_of_ble_eq_true rfl)
  · refine lv_iload_n hx hb dX5_needs_11 rfl (lv_at hl 3 rfl) ?_
    refine lv_sipush (v := 9899) hx hb dX5_needs_12 (by decide) ?_
    refine lv_icmp_le (tgt := 28) hx hb dX5_needs_15 (by decide) (fun c_3 => ?_) (fun c_3 => ?_)
    · have hc_k0 : vp_in y 9900 := vin_le (n := 9899) (by decide) c_2 c_3
      obtain ⟨k0, hn_k0, rfl⟩ := vp_in_of hc_k0 (show 9900 < 2 ^ 31 by decide)
      refine lv_aload_n hx hb dX5_needs_28 rfl (lv_at hl 1 rfl) ?_
      refine lv_aload hx hb dX5_needs_29 (lv_at hl 0 rfl) ?_
      refine lv_iload_n hx hb dX5_needs_31 rfl (lv_at hl 3 rfl) ?_
      refine lv_iload_n hx hb dX5_needs_32 rfl (lv_at hl 4 rfl) ?_
      refine va_calli (va_runV (As := [.ref ((off g 8 (3 + 3 * i))), .int ((nI k0)), .int ((bI bb))]) (rest := []) ⟨hx, hb, hml, hown, hts⟩ (c_X5_mixesNeeded l E g ln bf z ke hs i (by omega) k0 (by omega) bb) (cwV 3 hts gX5_needs_X5_mixesNeeded rfl rfl rfl (by decide +kernel) ⟨Nat.le_of_ble_eq_true rfl, Nat.le_of_ble_eq_true rfl⟩) ⟨wSd.blind, (w_recv hK hM 0 (by decide) rfl (ci := 5) rfl), fun U hU hW => wSd.go ⟨ol, zs, ⟨hol, hke, hzs, hln, hnb2, hnb⟩, hM, ⟨⟨(pa.1, pa.2.1, pa.2.2), hPa⟩, ⟨(el.1, el.2), hEl⟩, ⟨tli, tq, hTr⟩⟩, hN, hHi, hHs⟩ hK hI hdg hS (fun q h => h) hU hW⟩ rfl rfl hl.1 rfl (lv_room (Nat.le_of_ble_eq_true rfl)) dX5_needs_33 ⟨Nat.le_of_ble_eq_true rfl, Nat.le_of_ble_eq_true rfl⟩) hS (fun q _ h => h) (fun q h => h) (fun r_4 uu t H_4 locs_4 ht hvm hw hB hz1 hk1 hS => ?_)
      rw [ht] at hB
      obtain ⟨ol, zs, ⟨hol, hke, hzs, hln, hnb2, hnb⟩, hM, ⟨⟨pa, hPa⟩, ⟨el, hEl⟩, ⟨tli, tq, hTr⟩⟩, hN, hHi, hHs⟩ := hB
      have hN : stP E (off g 8) z.1 z.2.1 z.2.2.1 z.2.2.2 _ := hN
      obtain rfl : r_4 = (ndS z k0 bb 100 0 (z.2.2.2 i).2) := hw
      refine vx_ret ?_
      refine W.widen (k := 2) (n := 12) (Nat.le_of_ble_eq_true rfl) (Nat.le_of_ble_eq_true rfl) ?_
      have hclk0 : (nI k0).toNatClampNeg = k0 := nI_clamp (by omega)
      exact W.iret (v := (ndS z k0 bb 100 0 (z.2.2.2 i).2)) hx hb hr (fun t ht hW => ⟨⟨_, (), rfl, (by show _ = _; rw [hclk0]), (by show (vp_in (nI i) 3 ∧ vp_in (nI k0) 9900) ∧ MB E g ln bf z ke hs t.heap; rw [ht]; exact ⟨⟨hc_i, hc_k0⟩, ⟨ol, zs, ⟨hol, hke, hzs, hln, hnb2, hnb⟩, hM, ⟨⟨(pa.1, pa.2.1, pa.2.2), hPa⟩, ⟨(el.1, el.2), hEl⟩, ⟨tli, tq, hTr⟩⟩, hN, hHi, hHs⟩⟩)⟩, hS.F ht⟩) hS.2.2 dX5_needs_36
    · exact w_throw hx hb hst hown (by decide +kernel) (hts (.classLink RX5 52 "java/lang/IllegalArgumentException") (List.mem_of_getElem? (i := 1) rfl)) (hts (.initialized "java/lang/IllegalArgumentException") (List.mem_of_getElem? (i := 2) rfl)) (List.mem_of_getElem? (i := 8) rfl) (fun w h => hts w (List.mem_cons_of_mem _ (List.mem_append_left _ (List.mem_append_right _ h)))) xb56 xo56 hxe hS (hl.1.trans hml.symm) dX5_needs_18 dX5_needs_21 dX5_needs_22 dX5_needs_24 dX5_needs_27 hno (Nat.le_of_ble_eq_true rfl) (Nat.le_of_ble_eq_true rfl) (Nat.le_of_ble_eq_true rfl) (Nat.le_of_ble_eq_true rfl) hlocks (fun t h1 h2 => ⟨(), trivial, ⟨Or.inr ⟨rfl, hc_i, (fun q => c_3 (vin_le2 (n := 9899) (by decide) q))⟩, MB.new ⟨ol, zs, ⟨hol, hke, hzs, hln, hnb2, hnb⟩, hM, ⟨⟨(pa.1, pa.2.1, pa.2.2), hPa⟩, ⟨(el.1, el.2), hEl⟩, ⟨tli, tq, hTr⟩⟩, hN, hHi, hHs⟩ h1⟩, h2⟩) hS.2.2 (Nat.le_of_ble_eq_true rfl) (Nat.le_of_ble_eq_true rfl)
set_option maxHeartbeats 4000000 in
set_option maxRecDepth 100000 in
theorem c_X5_ifEliminated (l : Launch) (hst : l.stackTraces = false) (E : wE) (g : Nat → Nat) (ln : Nat) (bf : Nat → Int32) (z : SS) (ke : Nat) (hs : Nat → SS) (x : Int32) : vx_Met l yX5_ifEliminated wsX5_ifEliminated ({ frames := 7, cells := 1, slots := 6, locals := 130 }) (va_Pc [.ref ((g 0)), .int x] (wSx E 94 g (wF 94 g) (MB E g ln bf z ke hs))) (va_Qi (fun (r : Int32) (_ : Unit) => r = (findS (z.2.2.2 x.toNatClampNeg).2).2.2.2.2) (fun _ t => vp_in x 3 ∧ MB E g ln bf z ke hs (t.heap)) (wF 94 g)) (vx_X (S := Unit) (fun _ => True) (fun Ex _ t => (Ex = "java/lang/IndexOutOfBoundsException" ∧ ¬ vp_in x 3) ∧ MB E g ln bf z ke hs (t.heap)) (wF 94 g)) 1 6 (wF 94 g) := by
  refine vx_ofW (cc := cX5_ifEliminated) (maxL := 2) (ret := (some .int)) (by decide) rfl ?_
  intro p e s m args below meth c s₁ B hml hno hv
  obtain ⟨rfl, ⟨ol, zs, ⟨hol, hke, hzs, hln, hnb2, hnb⟩, hM, ⟨⟨pa, hPa⟩, ⟨el, hEl⟩, ⟨tli, tq, hTr⟩⟩, hN, hHi, hHs⟩, hK, hI, hxe⟩ := hv
  have hx := B.exec
  have hb := B.bytes
  have hr := B.returns
  have hts := atoms_spec (ws := wsX5_ifEliminated) B.pre
  have hown : s.vm.findClass RX5 = some m.cls := findClass_of_methodNamed B.named
  have hlocks := B.notSynchronized
  have hS : va_S (wF 94 g) s.heap s.heap [] := va_S.rf
  have hl := lv_entry ([.ref ((g 0)), .int x]) (n := 2) (Nat.le_of_ble_eq_true rfl)
  rw [lg_entry_eq]
  generalize (lg_sl ([.ref ((g 0)), .int x]) ++ List.replicate (2 - (lg_sl ([.ref ((g 0)), .int x])).length) Slot.unset).toArray = ls at hl ⊢
  have hl : lv_has ls 2 [(0, .ref ((g 0))), (1, .int x)] := hl
  have hN : stP E (off g 8) z.1 z.2.1 z.2.2.1 z.2.2.2 s.heap := hN
  refine lv_aload_n hx hb dX5_ifEliminated_0 rfl (lv_at hl 0 rfl) ?_
  refine lv_aload_n hx hb dX5_ifEliminated_1 rfl (lv_at hl 0 rfl) ?_
  refine lv_iload_n hx hb dX5_ifEliminated_2 rfl (lv_at hl 1 rfl) ?_
  refine vx_callq (vx_runV (As := [.int x]) (rest := [.ref ((g 0))]) ⟨hx, hb, hml, hown, hts⟩ (c_X5_existing l hst E g ln bf z ke hs x) (cwV 1 hts gX5_ifEliminated_X5_existing rfl rfl rfl (by decide +kernel) ⟨Nat.le_of_ble_eq_true rfl, Nat.le_of_ble_eq_true rfl⟩) ⟨wSx.blind, (w_recv hK hM 0 (by decide) rfl (ci := 5) rfl), fun U hU hW => wSx.go ⟨ol, zs, ⟨hol, hke, hzs, hln, hnb2, hnb⟩, hM, ⟨⟨(pa.1, pa.2.1, pa.2.2), hPa⟩, ⟨(el.1, el.2), hEl⟩, ⟨tli, tq, hTr⟩⟩, hN, hHi, hHs⟩ hK hI hxe hS (fun q h => h) hU hW⟩ rfl rfl hl.1 rfl (lv_room (Nat.le_of_ble_eq_true rfl)) dX5_ifEliminated_3 ⟨Nat.le_of_ble_eq_true rfl, Nat.le_of_ble_eq_true rfl⟩) hS (fun q _ h => h) (fun q h => h) (fun q _ h => h) (fun E9 ce9 q9 uu t H_1 locs_1 ht hvm hpx hbx hz1 hk1 hS hc9 hv9 hf9 => ?_) (fun r_1 uu t H_1 locs_1 ht hvm hw hB hz1 hk1 hS => ?_)
  · exact vx_out (fun x hx => (hno x hx).elim) hlocks hc9 hv9 hf9 (fun t2 ht2 hvm2 => ⟨(), trivial, ⟨⟨hbx.1, hbx.2.1⟩, (by rw [ht2, ← ht]; exact hbx.2.2)⟩, hS.F ht2⟩) hS.2.2 (Nat.le_of_ble_eq_true rfl) (Nat.le_of_ble_eq_true rfl)
  rw [ht] at hB
  obtain ⟨hc_i, ⟨ol, zs, ⟨hol, hke, hzs, hln, hnb2, hnb⟩, hM, ⟨⟨pa, hPa⟩, ⟨el, hEl⟩, ⟨tli, tq, hTr⟩⟩, hN, hHi, hHs⟩⟩ := hB
  have hN : stP E (off g 8) z.1 z.2.1 z.2.2.1 z.2.2.2 _ := hN
  obtain rfl : r_1 = some (off g 8 (3 + 3 * x.toNatClampNeg)) := hw
  obtain ⟨i, hn_i, rfl⟩ := vp_in_of hc_i (show 3 < 2 ^ 31 by decide)
  rw [nI_clamp (show i < 2 ^ 31 by omega)]
  refine va_calli (va_runV (As := [.ref ((off g 8 (3 + 3 * i)))]) (rest := []) ⟨hx, hb, hml, hown, hts⟩ (c_X5_foundIfEliminated l E g ln bf z ke hs i (by omega)) (cwV 1 hts gX5_ifEliminated_X5_foundIfEliminated rfl rfl rfl (by decide +kernel) ⟨Nat.le_of_ble_eq_true rfl, Nat.le_of_ble_eq_true rfl⟩) ⟨wS.blind, (w_recv hK hM 0 (by decide) rfl (ci := 5) rfl), fun U hU hW => wS.go ⟨ol, zs, ⟨hol, hke, hzs, hln, hnb2, hnb⟩, hM, ⟨⟨(pa.1, pa.2.1, pa.2.2), hPa⟩, ⟨(el.1, el.2), hEl⟩, ⟨tli, tq, hTr⟩⟩, hN, hHi, hHs⟩ hK hI hU hW⟩ rfl rfl hl.1 rfl (lv_room (Nat.le_of_ble_eq_true rfl)) dX5_ifEliminated_6 ⟨Nat.le_of_ble_eq_true rfl, Nat.le_of_ble_eq_true rfl⟩) hS (fun q _ h => h) (fun q h => h) (fun r_2 uu t H_2 locs_2 ht hvm hw hB hz1 hk1 hS => ?_)
  rw [ht] at hB
  obtain ⟨ol, zs, ⟨hol, hke, hzs, hln, hnb2, hnb⟩, hM, ⟨⟨pa, hPa⟩, ⟨el, hEl⟩, ⟨tli, tq, hTr⟩⟩, hN, hHi, hHs⟩ := hB
  have hN : stP E (off g 8) z.1 z.2.1 z.2.2.1 z.2.2.2 _ := hN
  obtain rfl : r_2 = (findS (z.2.2.2 i).2).2.2.2.2 := hw
  refine vx_ret ?_
  refine W.widen (k := 1) (n := 6) (Nat.le_of_ble_eq_true rfl) (Nat.le_of_ble_eq_true rfl) ?_
  exact W.iret (v := ((findS (z.2.2.2 i).2).2.2.2.2)) hx hb hr (fun t ht hW => ⟨⟨_, (), rfl, rfl, (by show vp_in (nI i) 3 ∧ MB E g ln bf z ke hs t.heap; rw [ht]; exact ⟨hc_i, ⟨ol, zs, ⟨hol, hke, hzs, hln, hnb2, hnb⟩, hM, ⟨⟨(pa.1, pa.2.1, pa.2.2), hPa⟩, ⟨(el.1, el.2), hEl⟩, ⟨tli, tq, hTr⟩⟩, hN, hHi, hHs⟩⟩)⟩, hS.F ht⟩) hS.2.2 dX5_ifEliminated_9
