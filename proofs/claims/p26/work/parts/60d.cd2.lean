set_option maxHeartbeats 4000000 in
set_option maxRecDepth 100000 in
theorem c_X5_use (l : Launch) (hst : l.stackTraces = false) (E : wE) (g : Nat → Nat) (ln : Nat) (bf : Nat → Int32) (z : SS) (ke : Nat) (hs : Nat → SS) (x : Int32) : vx_Met l yX5_use wsX5_use ({ frames := 7, cells := 1, slots := 6, locals := 112 }) (va_Pc [.ref ((g 0)), .int x] (wSx E 94 g (wF 94 g) (MB E g ln bf z ke hs))) (va_Qd (fun (r : UInt64) (_ : Unit) => r = shF (z.2.2.2 x.toNatClampNeg).2.2.2.2.1 (z.2.2.2 x.toNatClampNeg).2.2.2.2.2.1 (z.2.2.2 x.toNatClampNeg).2.2.2.2.2.2) (fun _ t => vp_in x 3 ∧ MB E g ln bf z ke hs (t.heap)) (wF 94 g)) (vx_X (S := Unit) (fun _ => True) (fun Ex _ t => (Ex = "java/lang/IndexOutOfBoundsException" ∧ ¬ vp_in x 3) ∧ MB E g ln bf z ke hs (t.heap)) (wF 94 g)) 1 6 (wF 94 g) := by
  refine vx_ofW (cc := cX5_use) (maxL := 2) (ret := (some .double)) (by decide) rfl ?_
  intro p e s m args below meth c s₁ B hml hno hv
  obtain ⟨rfl, ⟨ol, zs, ⟨hol, hke, hzs, hln, hnb2, hnb⟩, hM, ⟨⟨pa, hPa⟩, ⟨el, hEl⟩, ⟨tli, tq, hTr⟩⟩, hN, hHi, hHs⟩, hK, hI, hxe⟩ := hv
  have hx := B.exec
  have hb := B.bytes
  have hr := B.returns
  have hts := atoms_spec (ws := wsX5_use) B.pre
  have hown : s.vm.findClass RX5 = some m.cls := findClass_of_methodNamed B.named
  have hlocks := B.notSynchronized
  have hS : va_S (wF 94 g) s.heap s.heap [] := va_S.rf
  have hl := lv_entry ([.ref ((g 0)), .int x]) (n := 2) (Nat.le_of_ble_eq_true rfl)
  rw [lg_entry_eq]
  generalize (lg_sl ([.ref ((g 0)), .int x]) ++ List.replicate (2 - (lg_sl ([.ref ((g 0)), .int x])).length) Slot.unset).toArray = ls at hl ⊢
  have hl : lv_has ls 2 [(0, .ref ((g 0))), (1, .int x)] := hl
  have hN : stP E (off g 8) z.1 z.2.1 z.2.2.1 z.2.2.2 s.heap := hN
  refine lv_aload_n hx hb dX5_use_0 rfl (lv_at hl 0 rfl) ?_
  refine lv_iload_n hx hb dX5_use_1 rfl (lv_at hl 1 rfl) ?_
  refine vx_callq (vx_runV (As := [.int x]) (rest := []) ⟨hx, hb, hml, hown, hts⟩ (c_X5_existing l hst E g ln bf z ke hs x) (cwV 1 hts gX5_use_X5_existing rfl rfl rfl (by decide +kernel) ⟨Nat.le_of_ble_eq_true rfl, Nat.le_of_ble_eq_true rfl⟩) ⟨wSx.blind, (w_recv hK hM 0 (by decide) rfl (ci := 5) rfl), fun U hU hW => wSx.go ⟨ol, zs, ⟨hol, hke, hzs, hln, hnb2, hnb⟩, hM, ⟨⟨(pa.1, pa.2.1, pa.2.2), hPa⟩, ⟨(el.1, el.2), hEl⟩, ⟨tli, tq, hTr⟩⟩, hN, hHi, hHs⟩ hK hI hxe hS (fun q h => h) hU hW⟩ rfl rfl hl.1 rfl (lv_room (Nat.le_of_ble_eq_true rfl)) dX5_use_2 ⟨Nat.le_of_ble_eq_true rfl, Nat.le_of_ble_eq_true rfl⟩) hS (fun q _ h => h) (fun q h => h) (fun q _ h => h) (fun E9 ce9 q9 uu t H_1 locs_1 ht hvm hpx hbx hz1 hk1 hS hc9 hv9 hf9 => ?_) (fun r_1 uu t H_1 locs_1 ht hvm hw hB hz1 hk1 hS => ?_)
  · exact vx_out (fun x hx => (hno x hx).elim) hlocks hc9 hv9 hf9 (fun t2 ht2 hvm2 => ⟨(), trivial, ⟨⟨hbx.1, hbx.2.1⟩, (by rw [ht2, ← ht]; exact hbx.2.2)⟩, hS.F ht2⟩) hS.2.2 (Nat.le_of_ble_eq_true rfl) (Nat.le_of_ble_eq_true rfl)
  rw [ht] at hB
  obtain ⟨hc_i, ⟨ol, zs, ⟨hol, hke, hzs, hln, hnb2, hnb⟩, hM, ⟨⟨pa, hPa⟩, ⟨el, hEl⟩, ⟨tli, tq, hTr⟩⟩, hN, hHi, hHs⟩⟩ := hB
  have hN : stP E (off g 8) z.1 z.2.1 z.2.2.1 z.2.2.2 _ := hN
  obtain rfl : r_1 = some (off g 8 (3 + 3 * x.toNatClampNeg)) := hw
  obtain ⟨i, hn_i, rfl⟩ := vp_in_of hc_i (show 3 < 2 ^ 31 by decide)
  rw [nI_clamp (show i < 2 ^ 31 by omega)]
  have hRi := hN.2 i (by omega)
  obtain ⟨hlnI, lfI, hlfI, hPI⟩ := id hRi
  refine va_calld (va_runV (As := []) (rest := []) ⟨hx, hb, hml, hown, hts⟩ (c_X3_share l E (rg (off g 8) i) (z.2.2.2 i).1 (z.2.2.2 i).2.1 (z.2.2.2 i).2.2.1 (z.2.2.2 i).2.2.2.1 (z.2.2.2 i).2.2.2.2.1 (z.2.2.2 i).2.2.2.2.2.1 (z.2.2.2 i).2.2.2.2.2.2) (cwV 0 hts gX5_use_X3_share rfl rfl rfl (by decide +kernel) ⟨Nat.le_of_ble_eq_true rfl, Nat.le_of_ble_eq_true rfl⟩) ⟨wS.blind, (w_recv hK hPI 0 (by decide) rfl (ci := 3) rfl), fun U hU hW => wS.go hRi hK (rg_I (off_I hI (by decide)) (by omega)) hU hW⟩ rfl rfl hl.1 rfl (lv_room (Nat.le_of_ble_eq_true rfl)) dX5_use_5 ⟨Nat.le_of_ble_eq_true rfl, Nat.le_of_ble_eq_true rfl⟩) hS (fun q _ h => h.elim) (fun q h => h.elim) (fun r_2 uu t H_2 locs_2 ht hvm hw hB hz1 hk1 hS => ?_)
  have hM := hM.same hk1
  have hPa := hPa.same hk1
  have hEl := hEl.same hk1
  have hTr := hTr.same hk1
  have hN := hN.same hk1
  have hHi := hHi.same hk1
  have hHs := hHs.same hk1
  obtain rfl : r_2 = (shF (z.2.2.2 i).2.2.2.2.1 (z.2.2.2 i).2.2.2.2.2.1 (z.2.2.2 i).2.2.2.2.2.2) := hw
  refine vx_ret ?_
  refine W.widen (k := 1) (n := 6) (Nat.le_of_ble_eq_true rfl) (Nat.le_of_ble_eq_true rfl) ?_
  exact W.dret (v := (shF (z.2.2.2 i).2.2.2.2.1 (z.2.2.2 i).2.2.2.2.2.1 (z.2.2.2 i).2.2.2.2.2.2)) hx hb hr (fun t ht hW => ⟨⟨_, (), rfl, rfl, (by show vp_in (nI i) 3 ∧ MB E g ln bf z ke hs t.heap; rw [ht]; exact ⟨hc_i, ⟨ol, zs, ⟨hol, hke, hzs, hln, hnb2, hnb⟩, hM, ⟨⟨(pa.1, pa.2.1, pa.2.2), hPa⟩, ⟨(el.1, el.2), hEl⟩, ⟨tli, tq, hTr⟩⟩, hN, hHi, hHs⟩⟩)⟩, hS.F ht⟩) hS.2.2 dX5_use_8
