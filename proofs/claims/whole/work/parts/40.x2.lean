set_option maxHeartbeats 4000000 in
set_option maxRecDepth 100000 in
theorem c_X5_checkBlock (l : Launch) (hst : l.stackTraces = false) (E : wE) (g : Nat → Nat) (ln : Nat) (bf : Nat → Int32) (z : SS) (ke : Nat) (hs : Nat → SS) (x : Int32) : vx_Met l yX5_checkBlock wsX5_checkBlock ({ frames := 6, cells := 1, slots := 6, locals := 90 }) (va_Pc [.ref ((g 0)), .int x] (wSx E 94 g (wF 94 g) (MB E g ln bf z ke hs))) (va_Qv (fun (_ : Unit) => True) (fun _ t => vp_in x z.1 ∧ MB E g ln bf z ke hs (t.heap)) (wF 94 g)) (vx_X (S := Unit) (fun _ => True) (fun Ex _ t => Ex = "java/lang/IndexOutOfBoundsException" ∧ ¬ vp_in x z.1 ∧ MB E g ln bf z ke hs (t.heap)) (wF 94 g)) 1 6 (wF 94 g) := by
  refine vx_ofW (cc := cX5_checkBlock) (maxL := 2) (ret := none) (by decide) rfl ?_
  intro p e s m args below meth c s₁ B hml hno hv
  obtain ⟨rfl, ⟨ol, zs, ⟨hol, hke, hzs, hln, hnb2, hnb⟩, hM, ⟨⟨pa, hPa⟩, ⟨el, hEl⟩, ⟨tli, tq, hTr⟩⟩, hN, hHi, hHs⟩, hK, hI, hxe⟩ := hv
  have hx := B.exec
  have hb := B.bytes
  have hr := B.returns
  have hts := atoms_spec (ws := wsX5_checkBlock) B.pre
  have hown : s.vm.findClass RX5 = some m.cls := findClass_of_methodNamed B.named
  have hlocks := B.notSynchronized
  have hS : va_S (wF 94 g) s.heap s.heap [] := va_S.rf
  have hin4 : ∀ w ∈ wsX40, w ∈ wsX5_checkBlock := by decide +kernel
  have hin5 : ∀ w ∈ wsX50, w ∈ wsX5_checkBlock := by decide +kernel
  have hl := lv_entry ([.ref ((g 0)), .int x]) (n := 2) (Nat.le_of_ble_eq_true rfl)
  rw [lg_entry_eq]
  generalize (lg_sl ([.ref ((g 0)), .int x]) ++ List.replicate (2 - (lg_sl ([.ref ((g 0)), .int x])).length) Slot.unset).toArray = ls at hl ⊢
  have hl : lv_has ls 2 [(0, .ref ((g 0))), (1, .int x)] := hl
  have hN : stP E (off g 8) z.1 z.2.1 z.2.2.1 z.2.2.2 s.heap := hN
  refine lv_iload_n hx hb dX5_checkBlock_0 rfl (lv_at hl 1 rfl) ?_
  refine lv_if_lt (tgt := 15) hx hb dX5_checkBlock_1 (by decide) (fun c_1 => ?_) (fun c_1 => ?_)
  · exact w_throw hx hb hst hown (by decide +kernel) (hts (.classLink RX5 213 "java/lang/IndexOutOfBoundsException") (List.mem_of_getElem? (i := 1) rfl)) (hts (.initialized "java/lang/IndexOutOfBoundsException") (List.mem_of_getElem? (i := 2) rfl)) (List.mem_of_getElem? (i := 1) rfl) (fun w h => hts w (List.mem_cons_of_mem _ (List.mem_append_right _ h))) xb217 xo217 hxe hS (hl.1.trans hml.symm) dX5_checkBlock_15 dX5_checkBlock_18 dX5_checkBlock_19 dX5_checkBlock_21 dX5_checkBlock_24 hno (Nat.le_of_ble_eq_true rfl) (Nat.le_of_ble_eq_true rfl) (Nat.le_of_ble_eq_true rfl) (Nat.le_of_ble_eq_true rfl) hlocks (fun t h1 h2 => ⟨(), trivial, ⟨rfl, fun q => absurd c_1 (fun y => q (Or.inl y)), MB.new ⟨ol, zs, ⟨hol, hke, hzs, hln, hnb2, hnb⟩, hM, ⟨⟨(pa.1, pa.2.1, pa.2.2), hPa⟩, ⟨(el.1, el.2), hEl⟩, ⟨tli, tq, hTr⟩⟩, hN, hHi, hHs⟩ h1⟩, h2⟩) hS.2.2 (Nat.le_of_ble_eq_true rfl) (Nat.le_of_ble_eq_true rfl)
  · refine lv_iload_n hx hb dX5_checkBlock_4 rfl (lv_at hl 1 rfl) ?_
    refine lv_aload_n hx hb dX5_checkBlock_5 rfl (lv_at hl 0 rfl) ?_
    refine w_get (C := RX5) (T := TX5) (N := 7) (ci := 5) (v := .ref ((g 8))) hx hb hts hin5 hown hK hM 0 (by decide) rfl rfl 0 (by decide) (hts (.fieldLink RX5 12 "MixedBlocks" "now" "LMixedBlocks$State;") (List.mem_of_getElem? (i := 3) rfl)) (fun _ h9 => h9) rfl dX5_checkBlock_6 ?_
    refine w_getN (C := RX4) (T := TX4) (N := 4) (ci := 4) (v := .int (nI z.1)) hx hb hts hin4 hown hK hN.1 0 (by decide) rfl rfl 0 (by decide) nf_X5_63 (fun _ h9 => h9) rfl dX5_checkBlock_9 ?_
    refine lv_icmp_lt (tgt := 25) hx hb dX5_checkBlock_12 (by decide) (fun c_2 => ?_) (fun c_2 => ?_)
    · refine vx_ret ?_
      refine W.widen (k := 1) (n := 6) (Nat.le_of_ble_eq_true rfl) (Nat.le_of_ble_eq_true rfl) ?_
      exact W.vret hx hb hr (fun t ht hW => ⟨⟨(), rfl, trivial, (by show vp_in x z.1 ∧ MB E g ln bf z ke hs t.heap; rw [ht]; exact ⟨vin_lt (by omega) c_1 c_2, ⟨ol, zs, ⟨hol, hke, hzs, hln, hnb2, hnb⟩, hM, ⟨⟨(pa.1, pa.2.1, pa.2.2), hPa⟩, ⟨(el.1, el.2), hEl⟩, ⟨tli, tq, hTr⟩⟩, hN, hHi, hHs⟩⟩)⟩, hS.F ht⟩) hS.2.2 dX5_checkBlock_25
    · exact w_throw hx hb hst hown (by decide +kernel) (hts (.classLink RX5 213 "java/lang/IndexOutOfBoundsException") (List.mem_of_getElem? (i := 1) rfl)) (hts (.initialized "java/lang/IndexOutOfBoundsException") (List.mem_of_getElem? (i := 2) rfl)) (List.mem_of_getElem? (i := 1) rfl) (fun w h => hts w (List.mem_cons_of_mem _ (List.mem_append_right _ h))) xb217 xo217 hxe hS (hl.1.trans hml.symm) dX5_checkBlock_15 dX5_checkBlock_18 dX5_checkBlock_19 dX5_checkBlock_21 dX5_checkBlock_24 hno (Nat.le_of_ble_eq_true rfl) (Nat.le_of_ble_eq_true rfl) (Nat.le_of_ble_eq_true rfl) (Nat.le_of_ble_eq_true rfl) hlocks (fun t h1 h2 => ⟨(), trivial, ⟨rfl, fun q => c_2 (vin_lt2 (by omega) q), MB.new ⟨ol, zs, ⟨hol, hke, hzs, hln, hnb2, hnb⟩, hM, ⟨⟨(pa.1, pa.2.1, pa.2.2), hPa⟩, ⟨(el.1, el.2), hEl⟩, ⟨tli, tq, hTr⟩⟩, hN, hHi, hHs⟩ h1⟩, h2⟩) hS.2.2 (Nat.le_of_ble_eq_true rfl) (Nat.le_of_ble_eq_true rfl)
set_option maxHeartbeats 4000000 in
set_option maxRecDepth 100000 in
theorem c_X5_existing (l : Launch) (hst : l.stackTraces = false) (E : wE) (g : Nat → Nat) (ln : Nat) (bf : Nat → Int32) (z : SS) (ke : Nat) (hs : Nat → SS) (x : Int32) : vx_Met l yX5_existing wsX5_existing ({ frames := 6, cells := 1, slots := 6, locals := 90 }) (va_Pc [.ref ((g 0)), .int x] (wSx E 94 g (wF 94 g) (MB E g ln bf z ke hs))) (va_Qq (fun (r : Option Nat) (_ : Unit) => r = some (off g 8 (3 + 3 * x.toNatClampNeg))) (fun _ t => vp_in x 3 ∧ MB E g ln bf z ke hs (t.heap)) (wF 94 g)) (vx_X (S := Unit) (fun _ => True) (fun Ex _ t => Ex = "java/lang/IndexOutOfBoundsException" ∧ ¬ vp_in x 3 ∧ MB E g ln bf z ke hs (t.heap)) (wF 94 g)) 1 6 (wF 94 g) := by
  refine vx_ofW (cc := cX5_existing) (maxL := 3) (ret := (some (.object "MixedBlocks$Receiver"))) (by decide) rfl ?_
  intro p e s m args below meth c s₁ B hml hno hv
  obtain ⟨rfl, ⟨ol, zs, ⟨hol, hke, hzs, hln, hnb2, hnb⟩, hM, ⟨⟨pa, hPa⟩, ⟨el, hEl⟩, ⟨tli, tq, hTr⟩⟩, hN, hHi, hHs⟩, hK, hI, hxe⟩ := hv
  have hx := B.exec
  have hb := B.bytes
  have hr := B.returns
  have hts := atoms_spec (ws := wsX5_existing) B.pre
  have hown : s.vm.findClass RX5 = some m.cls := findClass_of_methodNamed B.named
  have hlocks := B.notSynchronized
  have hS : va_S (wF 94 g) s.heap s.heap [] := va_S.rf
  have hin5 : ∀ w ∈ wsX50, w ∈ wsX5_existing := by decide +kernel
  have hl := lv_entry ([.ref ((g 0)), .int x]) (n := 3) (Nat.le_of_ble_eq_true rfl)
  rw [lg_entry_eq]
  generalize (lg_sl ([.ref ((g 0)), .int x]) ++ List.replicate (3 - (lg_sl ([.ref ((g 0)), .int x])).length) Slot.unset).toArray = ls at hl ⊢
  have hl : lv_has ls 3 [(0, .ref ((g 0))), (1, .int x)] := hl
  have hN : stP E (off g 8) z.1 z.2.1 z.2.2.1 z.2.2.2 s.heap := hN
  refine lv_aload_n hx hb dX5_existing_0 rfl (lv_at hl 0 rfl) ?_
  refine w_get (C := RX5) (T := TX5) (N := 7) (ci := 5) (v := .ref ((g 8))) hx hb hts hin5 hown hK hM 0 (by decide) rfl rfl 0 (by decide) (hts (.fieldLink RX5 12 "MixedBlocks" "now" "LMixedBlocks$State;") (List.mem_of_getElem? (i := 3) rfl)) (fun _ h9 => h9) rfl dX5_existing_1 ?_
  refine lv_iload_n hx hb dX5_existing_4 rfl (lv_at hl 1 rfl) ?_
  refine va_callq (va_runV (As := [.int x]) (rest := []) ⟨hx, hb, hml, hown, hts⟩ (c_X4_receiverAt l E (off g 8) z.1 z.2.1 z.2.2.1 z.2.2.2 x) (cwV 1 hts gX5_existing_X4_receiverAt rfl rfl rfl (by decide +kernel) ⟨Nat.le_of_ble_eq_true rfl, Nat.le_of_ble_eq_true rfl⟩) ⟨wS.blind, (w_recv hK hN.1 0 (by decide) rfl (ci := 4) rfl), fun U hU hW => wS.go hN hK (off_I hI (by decide)) hU hW⟩ rfl rfl hl.1 rfl (lv_room (Nat.le_of_ble_eq_true rfl)) dX5_existing_5 ⟨Nat.le_of_ble_eq_true rfl, Nat.le_of_ble_eq_true rfl⟩) hS (fun q _ h => h.elim) (fun q h => h.elim) (fun r_1 uu t H_1 locs_1 ht hvm hw hB hz1 hk1 hS => ?_)
  have hM := hM.same hk1
  have hPa := hPa.same hk1
  have hEl := hEl.same hk1
  have hTr := hTr.same hk1
  have hN := hN.same hk1
  have hHi := hHi.same hk1
  have hHs := hHs.same hk1
  obtain rfl : r_1 = (if x < 0 then none else if (3 : Int32) ≤ x then none else some (off g 8 (3 + 3 * x.toNatClampNeg))) := hw
  by_cases hneg : x < 0
  · rw [if_pos hneg]
    refine lv_astore_nN (lv' := [(2, .null), (0, .ref ((g 0))), (1, .int x)]) hx hb dX5_existing_8 rfl hl (by decide) rfl (fun ls hl => ?_)
    refine lv_aload_nN hx hb dX5_existing_9 rfl (lv_at hl 0 rfl) ?_
    refine lv_ifnonnullN hx hb dX5_existing_10 ?_
    exact w_throw hx hb hst hown (by decide +kernel) (hts (.classLink RX5 213 "java/lang/IndexOutOfBoundsException") (List.mem_of_getElem? (i := 1) rfl)) (hts (.initialized "java/lang/IndexOutOfBoundsException") (List.mem_of_getElem? (i := 2) rfl)) (List.mem_of_getElem? (i := 3) rfl) (fun w h => hts w (List.mem_cons_of_mem _ (List.mem_append_right _ h))) xb217 xo217 hxe hS (hl.1.trans hml.symm) dX5_existing_13 dX5_existing_16 dX5_existing_17 dX5_existing_19 dX5_existing_22 hno (Nat.le_of_ble_eq_true rfl) (Nat.le_of_ble_eq_true rfl) (Nat.le_of_ble_eq_true rfl) (Nat.le_of_ble_eq_true rfl) hlocks (fun t h1 h2 => ⟨(), trivial, ⟨rfl, (fun q => absurd hneg (fun y => q (Or.inl y))), MB.new ⟨ol, zs, ⟨hol, hke, hzs, hln, hnb2, hnb⟩, hM, ⟨⟨(pa.1, pa.2.1, pa.2.2), hPa⟩, ⟨(el.1, el.2), hEl⟩, ⟨tli, tq, hTr⟩⟩, hN, hHi, hHs⟩ h1⟩, h2⟩) hS.2.2 (Nat.le_of_ble_eq_true rfl) (Nat.le_of_ble_eq_true rfl)
  · by_cases hbig : (3 : Int32) ≤ x
    · rw [if_neg hneg, if_pos hbig]
      refine lv_astore_nN (lv' := [(2, .null), (0, .ref ((g 0))), (1, .int x)]) hx hb dX5_existing_8 rfl hl (by decide) rfl (fun ls hl => ?_)
      refine lv_aload_nN hx hb dX5_existing_9 rfl (lv_at hl 0 rfl) ?_
      refine lv_ifnonnullN hx hb dX5_existing_10 ?_
      exact w_throw hx hb hst hown (by decide +kernel) (hts (.classLink RX5 213 "java/lang/IndexOutOfBoundsException") (List.mem_of_getElem? (i := 1) rfl)) (hts (.initialized "java/lang/IndexOutOfBoundsException") (List.mem_of_getElem? (i := 2) rfl)) (List.mem_of_getElem? (i := 3) rfl) (fun w h => hts w (List.mem_cons_of_mem _ (List.mem_append_right _ h))) xb217 xo217 hxe hS (hl.1.trans hml.symm) dX5_existing_13 dX5_existing_16 dX5_existing_17 dX5_existing_19 dX5_existing_22 hno (Nat.le_of_ble_eq_true rfl) (Nat.le_of_ble_eq_true rfl) (Nat.le_of_ble_eq_true rfl) (Nat.le_of_ble_eq_true rfl) hlocks (fun t h1 h2 => ⟨(), trivial, ⟨rfl, (fun q => absurd (vin_lt2 (n := 3) (by decide) q) (Int32.not_lt.mpr hbig)), MB.new ⟨ol, zs, ⟨hol, hke, hzs, hln, hnb2, hnb⟩, hM, ⟨⟨(pa.1, pa.2.1, pa.2.2), hPa⟩, ⟨(el.1, el.2), hEl⟩, ⟨tli, tq, hTr⟩⟩, hN, hHi, hHs⟩ h1⟩, h2⟩) hS.2.2 (Nat.le_of_ble_eq_true rfl) (Nat.le_of_ble_eq_true rfl)
    · rw [if_neg hneg, if_neg hbig]
      refine lv_astore_n (lv' := [(2, .ref ((off g 8 (3 + 3 * x.toNatClampNeg)))), (0, .ref ((g 0))), (1, .int x)]) hx hb dX5_existing_8 rfl hl (by decide) rfl (fun ls hl => ?_)
      refine lv_aload_n hx hb dX5_existing_9 rfl (lv_at hl 0 rfl) ?_
      refine lv_ifnonnull (tgt := 23) hx hb dX5_existing_10 (by decide) ?_
      refine lv_aload_n hx hb dX5_existing_23 rfl (lv_at hl 0 rfl) ?_
      refine vx_ret ?_
      refine W.widen (k := 1) (n := 6) (Nat.le_of_ble_eq_true rfl) (Nat.le_of_ble_eq_true rfl) ?_
      exact W.aret (v := va_rf (some (off g 8 (3 + 3 * x.toNatClampNeg)))) hx hb hr (Or.inl ⟨_, rfl⟩) (va_rf_or _) (fun t ht hW => ⟨⟨(some (off g 8 (3 + 3 * x.toNatClampNeg))), (), rfl, rfl, (by show vp_in x 3 ∧ MB E g ln bf z ke hs t.heap; rw [ht]; exact ⟨vin_of (n := 3) (by decide) hneg hbig, ⟨ol, zs, ⟨hol, hke, hzs, hln, hnb2, hnb⟩, hM, ⟨⟨(pa.1, pa.2.1, pa.2.2), hPa⟩, ⟨(el.1, el.2), hEl⟩, ⟨tli, tq, hTr⟩⟩, hN, hHi, hHs⟩⟩)⟩, hS.F ht⟩) hS.2.2 dX5_existing_24
set_option maxHeartbeats 4000000 in
set_option maxRecDepth 100000 in
theorem c_X5_clearBuffer (l : Launch) (E : wE) (g : Nat → Nat) (ln : Nat) (bf : Nat → Int32) (z : SS) (ke : Nat) (hs : Nat → SS) : Met l yX5_clearBuffer wsX5_clearBuffer ({ frames := 0, cells := 0, slots := 0, locals := 0 }) (va_Pc [.ref ((g 0))] (wS E 94 g (MB E g ln bf z ke hs))) (va_Qi (fun (r : Int32) (_ : Unit) => r = nI ln) (fun _ t => MB E g 0 bf z ke hs (t.heap)) (wF 94 g)) 0 0 (wF 94 g) := by
  refine Met.ofW (cc := cX5_clearBuffer) (maxL := 2) (ret := (some .int)) (by decide) rfl ?_
  intro p e s m args below meth c s₁ B hml hv
  obtain ⟨rfl, ⟨ol, zs, ⟨hol, hke, hzs, hln, hnb2, hnb⟩, hM, ⟨⟨pa, hPa⟩, ⟨el, hEl⟩, ⟨tli, tq, hTr⟩⟩, hN, hHi, hHs⟩, hK, hI⟩ := hv
  have hx := B.exec
  have hb := B.bytes
  have hr := B.returns
  have hts := atoms_spec (ws := wsX5_clearBuffer) B.pre
  have hown : s.vm.findClass RX5 = some m.cls := findClass_of_methodNamed B.named
  have hlocks := B.notSynchronized
  have hS : va_S (wF 94 g) s.heap s.heap [] := va_S.rf
  have hin5 : ∀ w ∈ wsX50, w ∈ wsX5_clearBuffer := by decide +kernel
  have hA : ∀ k, k < 94 → (wF 94 g) (g k) := wF_in
  have hl := lv_entry ([.ref ((g 0))]) (n := 2) (Nat.le_of_ble_eq_true rfl)
  rw [lg_entry_eq]
  generalize (lg_sl ([.ref ((g 0))]) ++ List.replicate (2 - (lg_sl ([.ref ((g 0))])).length) Slot.unset).toArray = ls at hl ⊢
  have hl : lv_has ls 2 [(0, .ref ((g 0)))] := hl
  have hN : stP E (off g 8) z.1 z.2.1 z.2.2.1 z.2.2.2 s.heap := hN
  refine lv_aload_n hx hb dX5_clearBuffer_0 rfl (lv_at hl 0 rfl) ?_
  refine w_get (C := RX5) (T := TX5) (N := 7) (ci := 5) (v := .int (nI ln)) hx hb hts hin5 hown hK hM 0 (by decide) rfl rfl 3 (by decide) (hts (.fieldLink RX5 27 "MixedBlocks" "length" "I") (List.mem_of_getElem? (i := 1) rfl)) (fun _ h9 => h9) rfl dX5_clearBuffer_1 ?_
  refine lv_istore_n (lv' := [(1, .int (nI ln)), (0, .ref ((g 0)))]) hx hb dX5_clearBuffer_4 rfl hl (by decide) rfl (fun ls hl => ?_)
  refine lv_aload_n hx hb dX5_clearBuffer_5 rfl (lv_at hl 1 rfl) ?_
  refine lv_iconst (v := 0) hx hb dX5_clearBuffer_6 (by decide) ?_
  refine w_putO (C := RX5) (T := TX5) (N := 7) (ci := 5) (v := .int 0) (ty := .int) hx hb hts hin5 tyX5 tyX5_ok nmX5 hown hK hM (hI.le (by decide)) (fun k hk => wF_in k (by omega)) hS 0 (by decide) rfl rfl 3 (by decide) (hts (.fieldLink RX5 27 "MixedBlocks" "length" "I") (List.mem_of_getElem? (i := 1) rfl)) (fun _ h9 => h9) rfl (by decide +kernel) rfl rfl (Nat.le_of_ble_eq_true rfl) dX5_clearBuffer_7 (mbF E g 0 bf) rfl mb_ne0 (fun H_1 locs_1 hM hO hS => ?_)
  have hPa := hPa.keep (fun k hk => hO _ (fun e => absurd (hI (2 + k) 0 (by omega) (by decide) e) (by omega)))
  have hEl := hEl.keep (fun k hk => hO _ (fun e => absurd (hI (3 + k) 0 (by omega) (by decide) e) (by omega)))
  have hTr := hTr.keep (fun k hk => hO _ (fun e => absurd (hI (5 + k) 0 (by omega) (by decide) e) (by omega)))
  have hN := hN.keep (fun k hk => hO _ (fun e => absurd (hI (8 + k) 0 (by omega) (by decide) e) (by omega)))
  have hHi := hHi.keep (fun k hk => hO _ (fun e => absurd (hI (20 + k) 0 (by omega) (by decide) e) (by omega)))
  have hHs := hHs.keep (fun k hk => hO _ (fun e => absurd (hI (20 + k) 0 (by omega) (by decide) e) (by omega)))
  refine lv_iload_n hx hb dX5_clearBuffer_10 rfl (lv_at hl 0 rfl) ?_
  exact W.iret (v := (nI ln)) hx hb hr (fun t ht hW => ⟨⟨_, (), rfl, rfl, (by show MB E g 0 bf z ke hs t.heap; rw [ht]; exact ⟨ol, zs, ⟨hol, hke, hzs, Nat.zero_le _, hnb2, hnb⟩, hM, ⟨⟨(pa.1, pa.2.1, pa.2.2), hPa⟩, ⟨(el.1, el.2), hEl⟩, ⟨tli, tq, hTr⟩⟩, hN, hHi, hHs⟩)⟩, hS.F ht⟩) hS.2.2 dX5_clearBuffer_11
set_option maxHeartbeats 4000000 in
set_option maxRecDepth 100000 in
theorem c_X5_append (l : Launch) (hst : l.stackTraces = false) (E : wE) (g : Nat → Nat) (ln : Nat) (bf : Nat → Int32) (z : SS) (ke : Nat) (hs : Nat → SS) (x : Int32) : vx_Met l yX5_append wsX5_append ({ frames := 6, cells := 1, slots := 6, locals := 90 }) (va_Pc [.ref ((g 0)), .int x] (wSx E 94 g (wF 94 g) (MB E g ln bf z ke hs))) (va_Qi (fun (r : Int32) (_ : Unit) => r = nI (ln + 1)) (fun _ t => ((33 ≤ x ∧ x ≤ 126) ∧ ln < 60) ∧ MB E g (ln + 1) (upd bf ln x) z ke hs (t.heap)) (wF 94 g)) (vx_X (S := Unit) (fun _ => True) (fun Ex _ t => ((Ex = "java/lang/IllegalArgumentException" ∧ ¬ (33 ≤ x ∧ x ≤ 126)) ∨ (Ex = "java/lang/IllegalStateException" ∧ (33 ≤ x ∧ x ≤ 126) ∧ ¬ ln < 60)) ∧ MB E g ln bf z ke hs (t.heap)) (wF 94 g)) 1 6 (wF 94 g) := by
  refine vx_ofW (cc := cX5_append) (maxL := 2) (ret := (some .int)) (by decide) rfl ?_
  intro p e s m args below meth c s₁ B hml hno hv
  obtain ⟨rfl, ⟨ol, zs, ⟨hol, hke, hzs, hln, hnb2, hnb⟩, hM, ⟨⟨pa, hPa⟩, ⟨el, hEl⟩, ⟨tli, tq, hTr⟩⟩, hN, hHi, hHs⟩, hK, hI, hxe⟩ := hv
  have hx := B.exec
  have hb := B.bytes
  have hr := B.returns
  have hts := atoms_spec (ws := wsX5_append) B.pre
  have hown : s.vm.findClass RX5 = some m.cls := findClass_of_methodNamed B.named
  have hlocks := B.notSynchronized
  have hS : va_S (wF 94 g) s.heap s.heap [] := va_S.rf
  have hin5 : ∀ w ∈ wsX50, w ∈ wsX5_append := by decide +kernel
  have hl := lv_entry ([.ref ((g 0)), .int x]) (n := 2) (Nat.le_of_ble_eq_true rfl)
  rw [lg_entry_eq]
  generalize (lg_sl ([.ref ((g 0)), .int x]) ++ List.replicate (2 - (lg_sl ([.ref ((g 0)), .int x])).length) Slot.unset).toArray = ls at hl ⊢
  have hl : lv_has ls 2 [(0, .ref ((g 0))), (1, .int x)] := hl
  have hN : stP E (off g 8) z.1 z.2.1 z.2.2.1 z.2.2.2 s.heap := hN
  refine lv_iload_n hx hb dX5_append_0 rfl (lv_at hl 1 rfl) ?_
  refine lv_bipush (v := 33) hx hb dX5_append_1 (by decide) ?_
  refine lv_icmp_lt (tgt := 12) hx hb dX5_append_3 (by decide) (fun c_1 => ?_) (fun c_1 => ?_)
  · exact w_throw hx hb hst hown (by decide +kernel) (hts (.classLink RX5 52 "java/lang/IllegalArgumentException") (List.mem_of_getElem? (i := 1) rfl)) (hts (.initialized "java/lang/IllegalArgumentException") (List.mem_of_getElem? (i := 2) rfl)) (List.mem_of_getElem? (i := 5) rfl) (fun w h => hts w (List.mem_cons_of_mem _ (List.mem_append_left _ (List.mem_append_right _ h)))) xb56 xo56 hxe hS (hl.1.trans hml.symm) dX5_append_12 dX5_append_15 dX5_append_16 dX5_append_18 dX5_append_21 hno (Nat.le_of_ble_eq_true rfl) (Nat.le_of_ble_eq_true rfl) (Nat.le_of_ble_eq_true rfl) (Nat.le_of_ble_eq_true rfl) hlocks (fun t h1 h2 => ⟨(), trivial, ⟨Or.inl ⟨rfl, (fun y => absurd c_1 (Int32.not_lt.mpr y.1))⟩, MB.new ⟨ol, zs, ⟨hol, hke, hzs, hln, hnb2, hnb⟩, hM, ⟨⟨(pa.1, pa.2.1, pa.2.2), hPa⟩, ⟨(el.1, el.2), hEl⟩, ⟨tli, tq, hTr⟩⟩, hN, hHi, hHs⟩ h1⟩, h2⟩) hS.2.2 (Nat.le_of_ble_eq_true rfl) (Nat.le_of_ble_eq_true rfl)
  · refine lv_iload_n hx hb dX5_append_6 rfl (lv_at hl 1 rfl) ?_
    refine lv_bipush (v := 126) hx hb dX5_append_7 (by decide) ?_
    refine lv_icmp_le (tgt := 22) hx hb dX5_append_9 (by decide) (fun c_2 => ?_) (fun c_2 => ?_)
    · refine lv_aload_n hx hb dX5_append_22 rfl (lv_at hl 0 rfl) ?_
      refine w_get (C := RX5) (T := TX5) (N := 7) (ci := 5) (v := .int (nI ln)) hx hb hts hin5 hown hK hM 0 (by decide) rfl rfl 3 (by decide) (hts (.fieldLink RX5 27 "MixedBlocks" "length" "I") (List.mem_of_getElem? (i := 5) rfl)) (fun _ h9 => h9) rfl dX5_append_23 ?_
      refine lv_if_lt (tgt := 41) hx hb dX5_append_26 (by decide) (fun c_3 => ?_) (fun c_3 => ?_)
      · exact absurd c_3 (nI_pos (by omega))
      · refine lv_aload_n hx hb dX5_append_29 rfl (lv_at hl 0 rfl) ?_
        refine w_get (C := RX5) (T := TX5) (N := 7) (ci := 5) (v := .int (nI ln)) hx hb hts hin5 hown hK hM 0 (by decide) rfl rfl 3 (by decide) (hts (.fieldLink RX5 27 "MixedBlocks" "length" "I") (List.mem_of_getElem? (i := 5) rfl)) (fun _ h9 => h9) rfl dX5_append_30 ?_
        refine lv_aload_n hx hb dX5_append_33 rfl (lv_at hl 0 rfl) ?_
        refine w_get (C := RX5) (T := TX5) (N := 7) (ci := 5) (v := .ref ((g 1))) hx hb hts hin5 hown hK hM 0 (by decide) rfl rfl 2 (by decide) (hts (.fieldLink RX5 23 "MixedBlocks" "buffer" "[I") (List.mem_of_getElem? (i := 6) rfl)) (fun _ h9 => h9) rfl dX5_append_34 ?_
        refine w_alen (v := 60) hx hb hK hM 1 (by decide) rfl rfl dX5_append_37 ?_
        refine lv_icmp_lt (tgt := 51) hx hb dX5_append_38 (by decide) (fun c_4 => ?_) (fun c_4 => ?_)
        · have h60 : ln < 60 := (nI_ltI (a := ln) (b := 60) (by omega) (by omega)).mp c_4
          refine lv_aload_n hx hb dX5_append_51 rfl (lv_at hl 0 rfl) ?_
          refine w_get (C := RX5) (T := TX5) (N := 7) (ci := 5) (v := .ref ((g 1))) hx hb hts hin5 hown hK hM 0 (by decide) rfl rfl 2 (by decide) (hts (.fieldLink RX5 23 "MixedBlocks" "buffer" "[I") (List.mem_of_getElem? (i := 6) rfl)) (fun _ h9 => h9) rfl dX5_append_52 ?_
          refine lv_aload_n hx hb dX5_append_55 rfl (lv_at hl 0 rfl) ?_
          refine w_get (C := RX5) (T := TX5) (N := 7) (ci := 5) (v := .int (nI ln)) hx hb hts hin5 hown hK hM 0 (by decide) rfl rfl 3 (by decide) (hts (.fieldLink RX5 27 "MixedBlocks" "length" "I") (List.mem_of_getElem? (i := 5) rfl)) (fun _ h9 => h9) rfl dX5_append_56 ?_
          refine lv_iload_n hx hb dX5_append_59 rfl (lv_at hl 1 rfl) ?_
          refine w_iastO hx hb hK hM (hI.le (by decide)) (fun k hk => wF_in k (by omega)) hS 1 (by decide) rfl (vp_in_nI (by omega) (by decide)) dX5_append_60 (mbF E g ln (upd bf ln x)) (congrArg (fun z : Nat => (Sum.inl (E.2.1, 60, Sum.inl (upd bf z x)) : va_E)) (nI_clamp (by omega)).symm) mb_ne1 (fun H_5 locs_5 hM hO hS => ?_)
          have hPa := hPa.keep (fun k hk => hO _ (fun e => absurd (hI (2 + k) 1 (by omega) (by decide) e) (by omega)))
          have hEl := hEl.keep (fun k hk => hO _ (fun e => absurd (hI (3 + k) 1 (by omega) (by decide) e) (by omega)))
          have hTr := hTr.keep (fun k hk => hO _ (fun e => absurd (hI (5 + k) 1 (by omega) (by decide) e) (by omega)))
          have hN := hN.keep (fun k hk => hO _ (fun e => absurd (hI (8 + k) 1 (by omega) (by decide) e) (by omega)))
          have hHi := hHi.keep (fun k hk => hO _ (fun e => absurd (hI (20 + k) 1 (by omega) (by decide) e) (by omega)))
          have hHs := hHs.keep (fun k hk => hO _ (fun e => absurd (hI (20 + k) 1 (by omega) (by decide) e) (by omega)))
          refine lv_aload_n hx hb dX5_append_61 rfl (lv_at hl 0 rfl) ?_
          refine lv_dup hx hb dX5_append_62 rfl ?_
          refine w_get (C := RX5) (T := TX5) (N := 7) (ci := 5) (v := .int (nI ln)) hx hb hts hin5 hown hK hM 0 (by decide) rfl rfl 3 (by decide) (hts (.fieldLink RX5 27 "MixedBlocks" "length" "I") (List.mem_of_getElem? (i := 5) rfl)) (fun _ h9 => h9) rfl dX5_append_63 ?_
          refine lv_iconst (v := 1) hx hb dX5_append_66 (by decide) ?_
          refine lv_iadd hx hb dX5_append_67 ?_
          rw [show (nI ln) + 1 = nI (ln + 1) from nI_add _ _]
          refine w_putO (C := RX5) (T := TX5) (N := 7) (ci := 5) (v := .int (nI (ln + 1))) (ty := .int) hx hb hts hin5 tyX5 tyX5_ok nmX5 hown hK hM (hI.le (by decide)) (fun k hk => wF_in k (by omega)) hS 0 (by decide) rfl rfl 3 (by decide) (hts (.fieldLink RX5 27 "MixedBlocks" "length" "I") (List.mem_of_getElem? (i := 5) rfl)) (fun _ h9 => h9) rfl (by decide +kernel) rfl rfl (Nat.le_of_ble_eq_true rfl) dX5_append_68 (mbF E g (ln + 1) (upd bf ln x)) rfl mb_ne0 (fun H_6 locs_6 hM hO hS => ?_)
          have hPa := hPa.keep (fun k hk => hO _ (fun e => absurd (hI (2 + k) 0 (by omega) (by decide) e) (by omega)))
          have hEl := hEl.keep (fun k hk => hO _ (fun e => absurd (hI (3 + k) 0 (by omega) (by decide) e) (by omega)))
          have hTr := hTr.keep (fun k hk => hO _ (fun e => absurd (hI (5 + k) 0 (by omega) (by decide) e) (by omega)))
          have hN := hN.keep (fun k hk => hO _ (fun e => absurd (hI (8 + k) 0 (by omega) (by decide) e) (by omega)))
          have hHi := hHi.keep (fun k hk => hO _ (fun e => absurd (hI (20 + k) 0 (by omega) (by decide) e) (by omega)))
          have hHs := hHs.keep (fun k hk => hO _ (fun e => absurd (hI (20 + k) 0 (by omega) (by decide) e) (by omega)))
          refine lv_aload_n hx hb dX5_append_71 rfl (lv_at hl 0 rfl) ?_
          refine w_get (C := RX5) (T := TX5) (N := 7) (ci := 5) (v := .int (nI (ln + 1))) hx hb hts hin5 hown hK hM 0 (by decide) rfl rfl 3 (by decide) (hts (.fieldLink RX5 27 "MixedBlocks" "length" "I") (List.mem_of_getElem? (i := 5) rfl)) (fun _ h9 => h9) rfl dX5_append_72 ?_
          refine vx_ret ?_
          refine W.widen (k := 1) (n := 6) (Nat.le_of_ble_eq_true rfl) (Nat.le_of_ble_eq_true rfl) ?_
          exact W.iret (v := (nI (ln + 1))) hx hb hr (fun t ht hW => ⟨⟨_, (), rfl, rfl, (by show ((33 ≤ x ∧ x ≤ 126) ∧ ln < 60) ∧ MB E g (ln + 1) (upd bf ln x) z ke hs t.heap; rw [ht]; exact ⟨⟨⟨Int32.not_lt.mp c_1, c_2⟩, h60⟩, ⟨ol, zs, ⟨hol, hke, hzs, h60, hnb2, hnb⟩, hM, ⟨⟨(pa.1, pa.2.1, pa.2.2), hPa⟩, ⟨(el.1, el.2), hEl⟩, ⟨tli, tq, hTr⟩⟩, hN, hHi, hHs⟩⟩)⟩, hS.F ht⟩) hS.2.2 dX5_append_75
        · have h60 : ¬ ln < 60 := fun y => c_4 ((nI_ltI (a := ln) (b := 60) (by omega) (by omega)).mpr y)
          exact w_throw hx hb hst hown (by decide +kernel) (hts (.classLink RX5 111 "java/lang/IllegalStateException") (List.mem_of_getElem? (i := 3) rfl)) (hts (.initialized "java/lang/IllegalStateException") (List.mem_of_getElem? (i := 4) rfl)) (List.mem_of_getElem? (i := 6) rfl) (fun w h => hts w (List.mem_cons_of_mem _ (List.mem_append_right _ h))) xb115 xo115 hxe hS (hl.1.trans hml.symm) dX5_append_41 dX5_append_44 dX5_append_45 dX5_append_47 dX5_append_50 hno (Nat.le_of_ble_eq_true rfl) (Nat.le_of_ble_eq_true rfl) (Nat.le_of_ble_eq_true rfl) (Nat.le_of_ble_eq_true rfl) hlocks (fun t h1 h2 => ⟨(), trivial, ⟨Or.inr ⟨rfl, ⟨Int32.not_lt.mp c_1, c_2⟩, h60⟩, MB.new ⟨ol, zs, ⟨hol, hke, hzs, hln, hnb2, hnb⟩, hM, ⟨⟨(pa.1, pa.2.1, pa.2.2), hPa⟩, ⟨(el.1, el.2), hEl⟩, ⟨tli, tq, hTr⟩⟩, hN, hHi, hHs⟩ h1⟩, h2⟩) hS.2.2 (Nat.le_of_ble_eq_true rfl) (Nat.le_of_ble_eq_true rfl)
    · exact w_throw hx hb hst hown (by decide +kernel) (hts (.classLink RX5 52 "java/lang/IllegalArgumentException") (List.mem_of_getElem? (i := 1) rfl)) (hts (.initialized "java/lang/IllegalArgumentException") (List.mem_of_getElem? (i := 2) rfl)) (List.mem_of_getElem? (i := 5) rfl) (fun w h => hts w (List.mem_cons_of_mem _ (List.mem_append_left _ (List.mem_append_right _ h)))) xb56 xo56 hxe hS (hl.1.trans hml.symm) dX5_append_12 dX5_append_15 dX5_append_16 dX5_append_18 dX5_append_21 hno (Nat.le_of_ble_eq_true rfl) (Nat.le_of_ble_eq_true rfl) (Nat.le_of_ble_eq_true rfl) (Nat.le_of_ble_eq_true rfl) hlocks (fun t h1 h2 => ⟨(), trivial, ⟨Or.inl ⟨rfl, (fun y => c_2 y.2)⟩, MB.new ⟨ol, zs, ⟨hol, hke, hzs, hln, hnb2, hnb⟩, hM, ⟨⟨(pa.1, pa.2.1, pa.2.2), hPa⟩, ⟨(el.1, el.2), hEl⟩, ⟨tli, tq, hTr⟩⟩, hN, hHi, hHs⟩ h1⟩, h2⟩) hS.2.2 (Nat.le_of_ble_eq_true rfl) (Nat.le_of_ble_eq_true rfl)
