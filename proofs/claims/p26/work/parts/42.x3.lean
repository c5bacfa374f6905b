set_option maxHeartbeats 4000000 in
set_option maxRecDepth 100000 in
theorem c_X5_size (l : Launch) (hst : l.stackTraces = false) (E : wE) (g : Nat → Nat) (ln : Nat) (bf : Nat → Int32) (z : SS) (ke : Nat) (hs : Nat → SS) (x : Int32) : vx_Met l yX5_size wsX5_size ({ frames := 6, cells := 1, slots := 6, locals := 151 }) (va_Pc [.ref ((g 0)), .int x] (wSx E 94 g (wF 94 g) (MB E g ln bf z ke hs))) (va_Qi (fun (r : Int32) (_ : Unit) => r = nI z.1) (fun _ t => (2 ≤ x ∧ x ≤ 12) ∧ MB E g ln bf (sizeZ z x.toNatClampNeg) (kpK ke) (pushH ke hs z) (t.heap)) (wF 94 g)) (vx_X (S := Unit) (fun _ => True) (fun Ex _ t => Ex = "java/lang/IllegalArgumentException" ∧ ¬ (2 ≤ x ∧ x ≤ 12) ∧ MB E g ln bf z ke hs (t.heap)) (wF 94 g)) 1 6 (wF 94 g) := by
  refine vx_ofW (cc := cX5_size) (maxL := 3) (ret := (some .int)) (by decide) rfl ?_
  intro p e s m args below meth c s₁ B hml hno hv
  obtain ⟨rfl, ⟨ol, zs, ⟨hol, hke, hzs, hln, hnb2, hnb⟩, hM, ⟨⟨pa, hPa⟩, ⟨el, hEl⟩, ⟨tli, tq, hTr⟩⟩, hN, hHi, hHs⟩, hK, hI, hxe⟩ := hv
  have hx := B.exec
  have hb := B.bytes
  have hr := B.returns
  have hts := atoms_spec (ws := wsX5_size) B.pre
  have hown : s.vm.findClass RX5 = some m.cls := findClass_of_methodNamed B.named
  have hlocks := B.notSynchronized
  have hS : va_S (wF 94 g) s.heap s.heap [] := va_S.rf
  have hin4 : ∀ w ∈ wsX40, w ∈ wsX5_size := by decide +kernel
  have hin5 : ∀ w ∈ wsX50, w ∈ wsX5_size := by decide +kernel
  have hl := lv_entry ([.ref ((g 0)), .int x]) (n := 3) (Nat.le_of_ble_eq_true rfl)
  rw [lg_entry_eq]
  generalize (lg_sl ([.ref ((g 0)), .int x]) ++ List.replicate (3 - (lg_sl ([.ref ((g 0)), .int x])).length) Slot.unset).toArray = ls at hl ⊢
  have hl : lv_has ls 3 [(0, .ref ((g 0))), (1, .int x)] := hl
  have hN : stP E (off g 8) z.1 z.2.1 z.2.2.1 z.2.2.2 s.heap := hN
  refine lv_iload_n hx hb dX5_size_0 rfl (lv_at hl 1 rfl) ?_
  refine lv_iconst (v := 2) hx hb dX5_size_1 (by decide) ?_
  refine lv_icmp_lt (tgt := 11) hx hb dX5_size_2 (by decide) (fun c_1 => ?_) (fun c_1 => ?_)
  · exact w_throw hx hb hst hown (by decide +kernel) (hts (.classLink RX5 52 "java/lang/IllegalArgumentException") (List.mem_of_getElem? (i := 1) rfl)) (hts (.initialized "java/lang/IllegalArgumentException") (List.mem_of_getElem? (i := 2) rfl)) (List.mem_of_getElem? (i := 0) rfl) (fun w h => hts w (List.mem_cons_of_mem _ (List.mem_append_right _ h))) xb56 xo56 hxe hS (hl.1.trans hml.symm) dX5_size_11 dX5_size_14 dX5_size_15 dX5_size_17 dX5_size_20 hno (Nat.le_of_ble_eq_true rfl) (Nat.le_of_ble_eq_true rfl) (Nat.le_of_ble_eq_true rfl) (Nat.le_of_ble_eq_true rfl) hlocks (fun t h1 h2 => ⟨(), trivial, ⟨rfl, (fun y => absurd c_1 (Int32.not_lt.mpr y.1)), MB.new ⟨ol, zs, ⟨hol, hke, hzs, hln, hnb2, hnb⟩, hM, ⟨⟨(pa.1, pa.2.1, pa.2.2), hPa⟩, ⟨(el.1, el.2), hEl⟩, ⟨tli, tq, hTr⟩⟩, hN, hHi, hHs⟩ h1⟩, h2⟩) hS.2.2 (Nat.le_of_ble_eq_true rfl) (Nat.le_of_ble_eq_true rfl)
  · refine lv_iload_n hx hb dX5_size_5 rfl (lv_at hl 1 rfl) ?_
    refine lv_bipush (v := 12) hx hb dX5_size_6 (by decide) ?_
    refine lv_icmp_le (tgt := 21) hx hb dX5_size_8 (by decide) (fun c_2 => ?_) (fun c_2 => ?_)
    · obtain ⟨n2, h2a, h2b, rfl⟩ := rng2 (a := 2) (b := 12) (by decide) c_1 c_2 (by decide)
      refine lv_aload_n hx hb dX5_size_21 rfl (lv_at hl 0 rfl) ?_
      refine w_get (C := RX5) (T := TX5) (N := 7) (ci := 5) (v := .ref ((g 20))) hx hb hts hin5 hown hK hM 0 (by decide) rfl rfl 1 (by decide) (hts (.fieldLink RX5 19 "MixedBlocks" "history" "LMixedBlocks$History;") (List.mem_of_getElem? (i := 3) rfl)) (fun _ h9 => h9) rfl dX5_size_22 ?_
      refine lv_aload_n hx hb dX5_size_25 rfl (lv_at hl 0 rfl) ?_
      refine w_get (C := RX5) (T := TX5) (N := 7) (ci := 5) (v := .ref ((g 8))) hx hb hts hin5 hown hK hM 0 (by decide) rfl rfl 0 (by decide) (hts (.fieldLink RX5 12 "MixedBlocks" "now" "LMixedBlocks$State;") (List.mem_of_getElem? (i := 4) rfl)) (fun _ h9 => h9) rfl dX5_size_26 ?_
      refine va_callv (va_runV (As := [.ref ((g 8))]) (rest := []) ⟨hx, hb, hml, hown, hts⟩ (c_X1_keep l E (off g 20) ol ke zs (off g 8) z.1 z.2.1 z.2.2.1 z.2.2.2 (off_I hI (by decide)) (off_I hI (by decide)) (off_X hI (by decide) (by decide) (by decide)) hol hke) (cwV 1 hts gX5_size_X1_keep rfl rfl rfl (by decide +kernel) ⟨Nat.le_of_ble_eq_true rfl, Nat.le_of_ble_eq_true rfl⟩) ⟨wS.blind, (w_recv hK hHi 0 (by decide) rfl (ci := 1) rfl), fun U hU hW => wS.go ⟨hHi, hHs, hN⟩ hK wI0 hU hW⟩ rfl rfl hl.1 rfl (lv_room (Nat.le_of_ble_eq_true rfl)) dX5_size_29 ⟨Nat.le_of_ble_eq_true rfl, Nat.le_of_ble_eq_true rfl⟩) hS (fun q _ h => (off_in2 (o := 20) (n := 74) (o2 := 8) (n2 := 12) (by decide) (by decide)) q h) (off_in2 (o := 20) (n := 74) (o2 := 8) (n2 := 12) (by decide) (by decide)) (fun uu t H_3 locs_3 ht hvm hw hB hz1 hk1 hS => ?_)
      rw [ht] at hB
      obtain ⟨hHi, hHs, hN⟩ := hB
      have hHs : hiS E (off g 20) (va_up zs ((ol + ke) % 6) z) H_3 := hHs
      obtain ⟨hol2, hke2, hzs2⟩ := pushH_ok (z := z) hol hke hzs ⟨hnb2, hnb⟩
      have hM := hM.other hk1 ((off_M hI (by decide) (by decide)).out2 (off_M hI (by decide) (by decide)))
      have hPa := hPa.other hk1 ((off_X hI (by decide) (by decide) (by decide)).out2 (off_X hI (by decide) (by decide) (by decide)))
      have hEl := hEl.other hk1 ((off_X hI (by decide) (by decide) (by decide)).out2 (off_X hI (by decide) (by decide) (by decide)))
      have hTr := hTr.other hk1 ((off_X hI (by decide) (by decide) (by decide)).out2 (off_X hI (by decide) (by decide) (by decide)))
      refine lv_aload_n hx hb dX5_size_32 rfl (lv_at hl 0 rfl) ?_
      refine w_get (C := RX5) (T := TX5) (N := 7) (ci := 5) (v := .ref ((g 8))) hx hb hts hin5 hown hK hM 0 (by decide) rfl rfl 0 (by decide) (hts (.fieldLink RX5 12 "MixedBlocks" "now" "LMixedBlocks$State;") (List.mem_of_getElem? (i := 4) rfl)) (fun _ h9 => h9) rfl dX5_size_33 ?_
      refine w_getN (C := RX4) (T := TX4) (N := 4) (ci := 4) (v := .int (nI z.1)) hx hb hts hin4 hown hK hN.1 0 (by decide) rfl rfl 0 (by decide) nf_X5_63 (fun _ h9 => h9) rfl dX5_size_36 ?_
      refine lv_istore_n (lv' := [(2, .int (nI z.1)), (0, .ref ((g 0))), (1, .int ((nI n2)))]) hx hb dX5_size_39 rfl hl (by decide) rfl (fun ls hl => ?_)
      refine lv_aload_n hx hb dX5_size_40 rfl (lv_at hl 1 rfl) ?_
      refine w_get (C := RX5) (T := TX5) (N := 7) (ci := 5) (v := .ref ((g 8))) hx hb hts hin5 hown hK hM 0 (by decide) rfl rfl 0 (by decide) (hts (.fieldLink RX5 12 "MixedBlocks" "now" "LMixedBlocks$State;") (List.mem_of_getElem? (i := 4) rfl)) (fun _ h9 => h9) rfl dX5_size_41 ?_
      refine lv_iload_n hx hb dX5_size_44 rfl (lv_at hl 2 rfl) ?_
      refine va_callv (va_runV (As := [.int ((nI n2))]) (rest := []) ⟨hx, hb, hml, hown, hts⟩ (c_X4_resize l E (off g 8) z.1 z.2.1 z.2.2.1 z.2.2.2 n2 h2b) (cwV 1 hts gX5_size_X4_resize rfl rfl rfl (by decide +kernel) ⟨Nat.le_of_ble_eq_true rfl, Nat.le_of_ble_eq_true rfl⟩) ⟨wS.blind, (w_recv hK hN.1 0 (by decide) rfl (ci := 4) rfl), fun U hU hW => wS.go hN hK (off_I hI (by decide)) hU hW⟩ rfl rfl hl.1 rfl (lv_room (Nat.le_of_ble_eq_true rfl)) dX5_size_45 ⟨Nat.le_of_ble_eq_true rfl, Nat.le_of_ble_eq_true rfl⟩) hS (fun q _ h => (off_in (o := 8) (n := 12) (by decide)) q h) (off_in (o := 8) (n := 12) (by decide)) (fun uu t H_4 locs_4 ht hvm hw hB hz1 hk1 hS => ?_)
      rw [ht] at hB
      have hN := hB
      have hM := hM.other hk1 (off_M hI (by decide) (by decide)).out
      have hPa := hPa.other hk1 (off_X hI (by decide) (by decide) (by decide)).out
      have hEl := hEl.other hk1 (off_X hI (by decide) (by decide) (by decide)).out
      have hTr := hTr.other hk1 (off_X hI (by decide) (by decide) (by decide)).out
      have hHi := hHi.other hk1 (off_X hI (by decide) (by decide) (by decide)).out
      have hHs := hHs.other hk1 (off_X hI (by decide) (by decide) (by decide)).out
      refine lv_iload_n hx hb dX5_size_48 rfl (lv_at hl 0 rfl) ?_
      refine vx_ret ?_
      refine W.widen (k := 1) (n := 6) (Nat.le_of_ble_eq_true rfl) (Nat.le_of_ble_eq_true rfl) ?_
      have hcl : (nI n2).toNatClampNeg = n2 := nI_clamp (by omega)
      exact W.iret (v := (nI z.1)) hx hb hr (fun t ht hW => ⟨⟨_, (), rfl, rfl, (by show (2 ≤ nI n2 ∧ nI n2 ≤ 12) ∧ MB E g ln bf (sizeZ z (nI n2).toNatClampNeg) (kpK ke) (pushH ke hs z) t.heap; rw [ht, hcl]; exact ⟨⟨Int32.not_lt.mp c_1, c_2⟩, ⟨(kpO ol ke), (va_up zs ((ol + ke) % 6) z), ⟨hol2, hke2, hzs2, hln, h2a, h2b⟩, hM, ⟨⟨(pa.1, pa.2.1, pa.2.2), hPa⟩, ⟨(el.1, el.2), hEl⟩, ⟨tli, tq, hTr⟩⟩, hN, hHi, hHs⟩⟩)⟩, hS.F ht⟩) hS.2.2 dX5_size_49
    · exact w_throw hx hb hst hown (by decide +kernel) (hts (.classLink RX5 52 "java/lang/IllegalArgumentException") (List.mem_of_getElem? (i := 1) rfl)) (hts (.initialized "java/lang/IllegalArgumentException") (List.mem_of_getElem? (i := 2) rfl)) (List.mem_of_getElem? (i := 0) rfl) (fun w h => hts w (List.mem_cons_of_mem _ (List.mem_append_right _ h))) xb56 xo56 hxe hS (hl.1.trans hml.symm) dX5_size_11 dX5_size_14 dX5_size_15 dX5_size_17 dX5_size_20 hno (Nat.le_of_ble_eq_true rfl) (Nat.le_of_ble_eq_true rfl) (Nat.le_of_ble_eq_true rfl) (Nat.le_of_ble_eq_true rfl) hlocks (fun t h1 h2 => ⟨(), trivial, ⟨rfl, (fun y => c_2 y.2), MB.new ⟨ol, zs, ⟨hol, hke, hzs, hln, hnb2, hnb⟩, hM, ⟨⟨(pa.1, pa.2.1, pa.2.2), hPa⟩, ⟨(el.1, el.2), hEl⟩, ⟨tli, tq, hTr⟩⟩, hN, hHi, hHs⟩ h1⟩, h2⟩) hS.2.2 (Nat.le_of_ble_eq_true rfl) (Nat.le_of_ble_eq_true rfl)
set_option maxHeartbeats 4000000 in
set_option maxRecDepth 100000 in
theorem c_X5_write (l : Launch) (hst : l.stackTraces = false) (E : wE) (g : Nat → Nat) (ln : Nat) (bf : Nat → Int32) (z : SS) (ke : Nat) (hs : Nat → SS) (x v : Int32) : vx_Met l yX5_write wsX5_write ({ frames := 7, cells := 2, slots := 12, locals := 151 }) (va_Pc [.ref ((g 0)), .int x, .int v] (wSx E 94 g (wF 94 g) (MB E g ln bf z ke hs))) (va_Qi (fun (r : Int32) (_ : Unit) => r = z.2.1 x.toNatClampNeg) (fun _ t => (vp_in x z.1 ∧ vp_in v 65536) ∧ MB E g ln bf (writeZ z x.toNatClampNeg v) (kpK ke) (pushH ke hs z) (t.heap)) (wF 94 g)) (vx_X (S := Unit) (fun _ => True) (fun Ex _ t => ((Ex = "java/lang/IndexOutOfBoundsException" ∧ ¬ vp_in x z.1) ∨ (Ex = "java/lang/IllegalArgumentException" ∧ vp_in x z.1 ∧ ¬ vp_in v 65536)) ∧ MB E g ln bf z ke hs (t.heap)) (wF 94 g)) 2 12 (wF 94 g) := by
  refine vx_ofW (cc := cX5_write) (maxL := 4) (ret := (some .int)) (by decide) rfl ?_
  intro p e s m args below meth c s₁ B hml hno hv
  obtain ⟨rfl, ⟨ol, zs, ⟨hol, hke, hzs, hln, hnb2, hnb⟩, hM, ⟨⟨pa, hPa⟩, ⟨el, hEl⟩, ⟨tli, tq, hTr⟩⟩, hN, hHi, hHs⟩, hK, hI, hxe⟩ := hv
  have hx := B.exec
  have hb := B.bytes
  have hr := B.returns
  have hts := atoms_spec (ws := wsX5_write) B.pre
  have hown : s.vm.findClass RX5 = some m.cls := findClass_of_methodNamed B.named
  have hlocks := B.notSynchronized
  have hS : va_S (wF 94 g) s.heap s.heap [] := va_S.rf
  have hin5 : ∀ w ∈ wsX50, w ∈ wsX5_write := by decide +kernel
  have hl := lv_entry ([.ref ((g 0)), .int x, .int v]) (n := 4) (Nat.le_of_ble_eq_true rfl)
  rw [lg_entry_eq]
  generalize (lg_sl ([.ref ((g 0)), .int x, .int v]) ++ List.replicate (4 - (lg_sl ([.ref ((g 0)), .int x, .int v])).length) Slot.unset).toArray = ls at hl ⊢
  have hl : lv_has ls 4 [(0, .ref ((g 0))), (1, .int x), (2, .int v)] := hl
  have hN : stP E (off g 8) z.1 z.2.1 z.2.2.1 z.2.2.2 s.heap := hN
  refine lv_aload_n hx hb dX5_write_0 rfl (lv_at hl 0 rfl) ?_
  refine lv_iload_n hx hb dX5_write_1 rfl (lv_at hl 1 rfl) ?_
  refine vx_callv (vx_runV (As := [.int x]) (rest := []) ⟨hx, hb, hml, hown, hts⟩ (c_X5_checkBlock l hst E g ln bf z ke hs x) (cwV 1 hts gX5_write_X5_checkBlock rfl rfl rfl (by decide +kernel) ⟨Nat.le_of_ble_eq_true rfl, Nat.le_of_ble_eq_true rfl⟩) ⟨wSx.blind, (w_recv hK hM 0 (by decide) rfl (ci := 5) rfl), fun U hU hW => wSx.go ⟨ol, zs, ⟨hol, hke, hzs, hln, hnb2, hnb⟩, hM, ⟨⟨(pa.1, pa.2.1, pa.2.2), hPa⟩, ⟨(el.1, el.2), hEl⟩, ⟨tli, tq, hTr⟩⟩, hN, hHi, hHs⟩ hK hI hxe hS (fun q h => h) hU hW⟩ rfl rfl hl.1 rfl (lv_room (Nat.le_of_ble_eq_true rfl)) dX5_write_2 ⟨Nat.le_of_ble_eq_true rfl, Nat.le_of_ble_eq_true rfl⟩) hS (fun q _ h => h) (fun q h => h) (fun q _ h => h) (fun E9 ce9 q9 uu t H_1 locs_1 ht hvm hpx hbx hz1 hk1 hS hc9 hv9 hf9 => ?_) (fun uu t H_1 locs_1 ht hvm hw hB hz1 hk1 hS => ?_)
  · exact vx_out (fun x hx => (hno x hx).elim) hlocks hc9 hv9 hf9 (fun t2 ht2 hvm2 => ⟨(), trivial, ⟨Or.inl ⟨hbx.1, hbx.2.1⟩, (by rw [ht2, ← ht]; exact hbx.2.2)⟩, hS.F ht2⟩) hS.2.2 (Nat.le_of_ble_eq_true rfl) (Nat.le_of_ble_eq_true rfl)
  rw [ht] at hB
  obtain ⟨hc_b, ⟨ol, zs, ⟨hol, hke, hzs, hln, hnb2, hnb⟩, hM, ⟨⟨pa, hPa⟩, ⟨el, hEl⟩, ⟨tli, tq, hTr⟩⟩, hN, hHi, hHs⟩⟩ := hB
  have hN : stP E (off g 8) z.1 z.2.1 z.2.2.1 z.2.2.2 _ := hN
  obtain ⟨b, hn_b, rfl⟩ := vp_in_of hc_b (show z.1 < 2 ^ 31 by omega)
  refine lv_iload_n hx hb dX5_write_5 rfl (lv_at hl 2 rfl) ?_
  refine lv_if_lt (tgt := 15) hx hb dX5_write_6 (by decide) (fun c_2 => ?_) (fun c_2 => ?_)
  · exact w_throw hx hb hst hown (by decide +kernel) (hts (.classLink RX5 52 "java/lang/IllegalArgumentException") (List.mem_of_getElem? (i := 1) rfl)) (hts (.initialized "java/lang/IllegalArgumentException") (List.mem_of_getElem? (i := 2) rfl)) (List.mem_of_getElem? (i := 2) rfl) (fun w h => hts w (List.mem_cons_of_mem _ (List.mem_append_left _ (List.mem_append_right _ h)))) xb56 xo56 hxe hS (hl.1.trans hml.symm) dX5_write_15 dX5_write_18 dX5_write_19 dX5_write_21 dX5_write_24 hno (Nat.le_of_ble_eq_true rfl) (Nat.le_of_ble_eq_true rfl) (Nat.le_of_ble_eq_true rfl) (Nat.le_of_ble_eq_true rfl) hlocks (fun t h1 h2 => ⟨(), trivial, ⟨Or.inr ⟨rfl, hc_b, (fun y => absurd c_2 (fun q => y (Or.inl q)))⟩, MB.new ⟨ol, zs, ⟨hol, hke, hzs, hln, hnb2, hnb⟩, hM, ⟨⟨(pa.1, pa.2.1, pa.2.2), hPa⟩, ⟨(el.1, el.2), hEl⟩, ⟨tli, tq, hTr⟩⟩, hN, hHi, hHs⟩ h1⟩, h2⟩) hS.2.2 (Nat.le_of_ble_eq_true rfl) (Nat.le_of_ble_eq_true rfl)
  · refine lv_iload_n hx hb dX5_write_9 rfl (lv_at hl 2 rfl) ?_
    refine lv_ldc hx hb hown (hts (.constant RX5 73 (65535)) (List.mem_of_getElem? (i := 3) rfl)) dX5_write_10 ?_
    refine lv_icmp_le (tgt := 25) hx hb dX5_write_12 (by decide) (fun c_3 => ?_) (fun c_3 => ?_)
    · refine lv_aload_n hx hb dX5_write_25 rfl (lv_at hl 0 rfl) ?_
      refine w_get (C := RX5) (T := TX5) (N := 7) (ci := 5) (v := .ref ((g 20))) hx hb hts hin5 hown hK hM 0 (by decide) rfl rfl 1 (by decide) (hts (.fieldLink RX5 19 "MixedBlocks" "history" "LMixedBlocks$History;") (List.mem_of_getElem? (i := 4) rfl)) (fun _ h9 => h9) rfl dX5_write_26 ?_
      refine lv_aload_n hx hb dX5_write_29 rfl (lv_at hl 0 rfl) ?_
      refine w_get (C := RX5) (T := TX5) (N := 7) (ci := 5) (v := .ref ((g 8))) hx hb hts hin5 hown hK hM 0 (by decide) rfl rfl 0 (by decide) (hts (.fieldLink RX5 12 "MixedBlocks" "now" "LMixedBlocks$State;") (List.mem_of_getElem? (i := 5) rfl)) (fun _ h9 => h9) rfl dX5_write_30 ?_
      refine va_callv (va_runV (As := [.ref ((g 8))]) (rest := []) ⟨hx, hb, hml, hown, hts⟩ (c_X1_keep l E (off g 20) ol ke zs (off g 8) z.1 z.2.1 z.2.2.1 z.2.2.2 (off_I hI (by decide)) (off_I hI (by decide)) (off_X hI (by decide) (by decide) (by decide)) hol hke) (cwV 1 hts gX5_write_X1_keep rfl rfl rfl (by decide +kernel) ⟨Nat.le_of_ble_eq_true rfl, Nat.le_of_ble_eq_true rfl⟩) ⟨wS.blind, (w_recv hK hHi 0 (by decide) rfl (ci := 1) rfl), fun U hU hW => wS.go ⟨hHi, hHs, hN⟩ hK wI0 hU hW⟩ rfl rfl hl.1 rfl (lv_room (Nat.le_of_ble_eq_true rfl)) dX5_write_33 ⟨Nat.le_of_ble_eq_true rfl, Nat.le_of_ble_eq_true rfl⟩) hS (fun q _ h => (off_in2 (o := 20) (n := 74) (o2 := 8) (n2 := 12) (by decide) (by decide)) q h) (off_in2 (o := 20) (n := 74) (o2 := 8) (n2 := 12) (by decide) (by decide)) (fun uu t H_4 locs_4 ht hvm hw hB hz1 hk1 hS => ?_)
      rw [ht] at hB
      obtain ⟨hHi, hHs, hN⟩ := hB
      have hHs : hiS E (off g 20) (va_up zs ((ol + ke) % 6) z) H_4 := hHs
      obtain ⟨hol2, hke2, hzs2⟩ := pushH_ok (z := z) hol hke hzs ⟨hnb2, hnb⟩
      have hM := hM.other hk1 ((off_M hI (by decide) (by decide)).out2 (off_M hI (by decide) (by decide)))
      have hPa := hPa.other hk1 ((off_X hI (by decide) (by decide) (by decide)).out2 (off_X hI (by decide) (by decide) (by decide)))
      have hEl := hEl.other hk1 ((off_X hI (by decide) (by decide) (by decide)).out2 (off_X hI (by decide) (by decide) (by decide)))
      have hTr := hTr.other hk1 ((off_X hI (by decide) (by decide) (by decide)).out2 (off_X hI (by decide) (by decide) (by decide)))
      refine lv_aload_n hx hb dX5_write_36 rfl (lv_at hl 0 rfl) ?_
      refine w_get (C := RX5) (T := TX5) (N := 7) (ci := 5) (v := .ref ((g 8))) hx hb hts hin5 hown hK hM 0 (by decide) rfl rfl 0 (by decide) (hts (.fieldLink RX5 12 "MixedBlocks" "now" "LMixedBlocks$State;") (List.mem_of_getElem? (i := 5) rfl)) (fun _ h9 => h9) rfl dX5_write_37 ?_
      refine lv_iload_n hx hb dX5_write_40 rfl (lv_at hl 1 rfl) ?_
      refine va_calli (va_runV (As := [.int ((nI b))]) (rest := []) ⟨hx, hb, hml, hown, hts⟩ (c_X4_valueAt l E (off g 8) z.1 z.2.1 z.2.2.1 z.2.2.2 b (by omega)) (cwV 1 hts gX5_write_X4_valueAt rfl rfl rfl (by decide +kernel) ⟨Nat.le_of_ble_eq_true rfl, Nat.le_of_ble_eq_true rfl⟩) ⟨wS.blind, (w_recv hK hN.1 0 (by decide) rfl (ci := 4) rfl), fun U hU hW => wS.go hN hK (off_I hI (by decide)) hU hW⟩ rfl rfl hl.1 rfl (lv_room (Nat.le_of_ble_eq_true rfl)) dX5_write_41 ⟨Nat.le_of_ble_eq_true rfl, Nat.le_of_ble_eq_true rfl⟩) hS (fun q _ h => h.elim) (fun q h => h.elim) (fun r_5 uu t H_5 locs_5 ht hvm hw hB hz1 hk1 hS => ?_)
      have hM := hM.same hk1
      have hPa := hPa.same hk1
      have hEl := hEl.same hk1
      have hTr := hTr.same hk1
      have hN := hN.same hk1
      have hHi := hHi.same hk1
      have hHs := hHs.same hk1
      obtain rfl : r_5 = (z.2.1 b) := hw
      refine lv_istore_n (lv' := [(3, .int ((z.2.1 b))), (0, .ref ((g 0))), (1, .int ((nI b))), (2, .int v)]) hx hb dX5_write_44 rfl hl (by decide) rfl (fun ls hl => ?_)
      refine lv_aload_n hx hb dX5_write_45 rfl (lv_at hl 1 rfl) ?_
      refine w_get (C := RX5) (T := TX5) (N := 7) (ci := 5) (v := .ref ((g 8))) hx hb hts hin5 hown hK hM 0 (by decide) rfl rfl 0 (by decide) (hts (.fieldLink RX5 12 "MixedBlocks" "now" "LMixedBlocks$State;") (List.mem_of_getElem? (i := 5) rfl)) (fun _ h9 => h9) rfl dX5_write_46 ?_
      refine lv_iload_n hx hb dX5_write_49 rfl (lv_at hl 2 rfl) ?_
      refine lv_iload_n hx hb dX5_write_50 rfl (lv_at hl 3 rfl) ?_
      refine va_callv (va_runV (As := [.int ((nI b)), .int v]) (rest := []) ⟨hx, hb, hml, hown, hts⟩ (c_X4_change l E (off g 8) z.1 z.2.1 z.2.2.1 z.2.2.2 b (by omega) v) (cwV 2 hts gX5_write_X4_change rfl rfl rfl (by decide +kernel) ⟨Nat.le_of_ble_eq_true rfl, Nat.le_of_ble_eq_true rfl⟩) ⟨wS.blind, (w_recv hK hN.1 0 (by decide) rfl (ci := 4) rfl), fun U hU hW => wS.go hN hK (off_I hI (by decide)) hU hW⟩ rfl rfl hl.1 rfl (lv_room (Nat.le_of_ble_eq_true rfl)) dX5_write_51 ⟨Nat.le_of_ble_eq_true rfl, Nat.le_of_ble_eq_true rfl⟩) hS (fun q _ h => (off_in (o := 8) (n := 12) (by decide)) q h) (off_in (o := 8) (n := 12) (by decide)) (fun uu t H_6 locs_6 ht hvm hw hB hz1 hk1 hS => ?_)
      rw [ht] at hB
      have hN := hB
      have hM := hM.other hk1 (off_M hI (by decide) (by decide)).out
      have hPa := hPa.other hk1 (off_X hI (by decide) (by decide) (by decide)).out
      have hEl := hEl.other hk1 (off_X hI (by decide) (by decide) (by decide)).out
      have hTr := hTr.other hk1 (off_X hI (by decide) (by decide) (by decide)).out
      have hHi := hHi.other hk1 (off_X hI (by decide) (by decide) (by decide)).out
      have hHs := hHs.other hk1 (off_X hI (by decide) (by decide) (by decide)).out
      refine lv_iload_n hx hb dX5_write_54 rfl (lv_at hl 0 rfl) ?_
      refine vx_ret ?_
      refine W.widen (k := 2) (n := 12) (Nat.le_of_ble_eq_true rfl) (Nat.le_of_ble_eq_true rfl) ?_
      have hclb : (nI b).toNatClampNeg = b := nI_clamp (by omega)
      exact W.iret (v := (z.2.1 b)) hx hb hr (fun t ht hW => ⟨⟨_, (), rfl, (by show _ = _; rw [hclb]), (by show (vp_in (nI b) z.1 ∧ vp_in v 65536) ∧ MB E g ln bf (writeZ z (nI b).toNatClampNeg v) (kpK ke) (pushH ke hs z) t.heap; rw [ht, hclb]; exact ⟨⟨hc_b, vin_le (n := 65535) (by decide) c_2 c_3⟩, ⟨(kpO ol ke), (va_up zs ((ol + ke) % 6) z), ⟨hol2, hke2, hzs2, hln, hnb2, hnb⟩, hM, ⟨⟨(pa.1, pa.2.1, pa.2.2), hPa⟩, ⟨(el.1, el.2), hEl⟩, ⟨tli, tq, hTr⟩⟩, hN, hHi, hHs⟩⟩)⟩, hS.F ht⟩) hS.2.2 dX5_write_55
    · exact w_throw hx hb hst hown (by decide +kernel) (hts (.classLink RX5 52 "java/lang/IllegalArgumentException") (List.mem_of_getElem? (i := 1) rfl)) (hts (.initialized "java/lang/IllegalArgumentException") (List.mem_of_getElem? (i := 2) rfl)) (List.mem_of_getElem? (i := 2) rfl) (fun w h => hts w (List.mem_cons_of_mem _ (List.mem_append_left _ (List.mem_append_right _ h)))) xb56 xo56 hxe hS (hl.1.trans hml.symm) dX5_write_15 dX5_write_18 dX5_write_19 dX5_write_21 dX5_write_24 hno (Nat.le_of_ble_eq_true rfl) (Nat.le_of_ble_eq_true rfl) (Nat.le_of_ble_eq_true rfl) (Nat.le_of_ble_eq_true rfl) hlocks (fun t h1 h2 => ⟨(), trivial, ⟨Or.inr ⟨rfl, hc_b, (fun y => c_3 (vin_le2 (n := 65535) (by decide) y))⟩, MB.new ⟨ol, zs, ⟨hol, hke, hzs, hln, hnb2, hnb⟩, hM, ⟨⟨(pa.1, pa.2.1, pa.2.2), hPa⟩, ⟨(el.1, el.2), hEl⟩, ⟨tli, tq, hTr⟩⟩, hN, hHi, hHs⟩ h1⟩, h2⟩) hS.2.2 (Nat.le_of_ble_eq_true rfl) (Nat.le_of_ble_eq_true rfl)
set_option maxHeartbeats 4000000 in
set_option maxRecDepth 100000 in
theorem c_X5_send (l : Launch) (hst : l.stackTraces = false) (E : wE) (g : Nat → Nat) (ln : Nat) (bf : Nat → Int32) (z : SS) (ke : Nat) (hs : Nat → SS) (x : Int32) : vx_Met l yX5_send wsX5_send ({ frames := 7, cells := 1, slots := 6, locals := 151 }) (va_Pc [.ref ((g 0)), .int x] (wSx E 94 g (wF 94 g) (MB E g ln bf z ke hs))) (va_Qi (fun (r : Int32) (_ : Unit) => r = sumR (mixS z.1 z.2.1 x.toNatClampNeg) z.2.2.2 3) (fun _ t => vp_in x 10000 ∧ MB E g ln bf (sendZ z x.toNatClampNeg) (kpK ke) (pushH ke hs z) (t.heap)) (wF 94 g)) (vx_X (S := Unit) (fun _ => True) (fun Ex _ t => (Ex = "java/lang/IllegalArgumentException" ∧ ¬ vp_in x 10000) ∧ MB E g ln bf z ke hs (t.heap)) (wF 94 g)) 1 6 (wF 94 g) := by
  refine vx_ofW (cc := cX5_send) (maxL := 2) (ret := (some .int)) (by decide) rfl ?_
  intro p e s m args below meth c s₁ B hml hno hv
  obtain ⟨rfl, ⟨ol, zs, ⟨hol, hke, hzs, hln, hnb2, hnb⟩, hM, ⟨⟨pa, hPa⟩, ⟨el, hEl⟩, ⟨tli, tq, hTr⟩⟩, hN, hHi, hHs⟩, hK, hI, hxe⟩ := hv
  have hx := B.exec
  have hb := B.bytes
  have hr := B.returns
  have hts := atoms_spec (ws := wsX5_send) B.pre
  have hown : s.vm.findClass RX5 = some m.cls := findClass_of_methodNamed B.named
  have hlocks := B.notSynchronized
  have hS : va_S (wF 94 g) s.heap s.heap [] := va_S.rf
  have hin5 : ∀ w ∈ wsX50, w ∈ wsX5_send := by decide +kernel
  have hl := lv_entry ([.ref ((g 0)), .int x]) (n := 2) (Nat.le_of_ble_eq_true rfl)
  rw [lg_entry_eq]
  generalize (lg_sl ([.ref ((g 0)), .int x]) ++ List.replicate (2 - (lg_sl ([.ref ((g 0)), .int x])).length) Slot.unset).toArray = ls at hl ⊢
  have hl : lv_has ls 2 [(0, .ref ((g 0))), (1, .int x)] := hl
  have hN : stP E (off g 8) z.1 z.2.1 z.2.2.1 z.2.2.2 s.heap := hN
  have hdg := hxe.2.2.2.2
  refine lv_iload_n hx hb dX5_send_0 rfl (lv_at hl 1 rfl) ?_
  refine vx_callv (vx_runS (As := [.int x]) (rest := []) ⟨hx, hb, hml, hown, hts⟩ (c_X5_checkMix l hst E x) (va_cwS 1 hts gX5_send_X5_checkMix rfl rfl rfl (by decide +kernel) ⟨Nat.le_of_ble_eq_true rfl, Nat.le_of_ble_eq_true rfl⟩) ⟨wSx.blind, fun U hU hW => wSx.go trivial hK wI0 hxe hS (fun q h => h.elim) hU hW⟩ rfl rfl hl.1 rfl (lv_room (Nat.le_of_ble_eq_true rfl)) dX5_send_1 ⟨Nat.le_of_ble_eq_true rfl, Nat.le_of_ble_eq_true rfl⟩) hS (fun q _ h => h.elim) (fun q h => h.elim) (fun q _ h => h.elim) (fun E9 ce9 q9 uu t H_1 locs_1 ht hvm hpx hbx hz1 hk1 hS hc9 hv9 hf9 => ?_) (fun uu t H_1 locs_1 ht hvm hw hB hz1 hk1 hS => ?_)
  · have hM := hM.same hk1
    have hPa := hPa.same hk1
    have hEl := hEl.same hk1
    have hTr := hTr.same hk1
    have hN := hN.same hk1
    have hHi := hHi.same hk1
    have hHs := hHs.same hk1
    exact vx_out (fun x hx => (hno x hx).elim) hlocks hc9 hv9 hf9 (fun t2 ht2 hvm2 => ⟨(), trivial, ⟨⟨hbx.1, hbx.2⟩, (by rw [ht2]; exact ⟨ol, zs, ⟨hol, hke, hzs, hln, hnb2, hnb⟩, hM, ⟨⟨(pa.1, pa.2.1, pa.2.2), hPa⟩, ⟨(el.1, el.2), hEl⟩, ⟨tli, tq, hTr⟩⟩, hN, hHi, hHs⟩)⟩, hS.F ht2⟩) hS.2.2 (Nat.le_of_ble_eq_true rfl) (Nat.le_of_ble_eq_true rfl)
  have hc_k0 := hB
  have hM := hM.same hk1
  have hPa := hPa.same hk1
  have hEl := hEl.same hk1
  have hTr := hTr.same hk1
  have hN := hN.same hk1
  have hHi := hHi.same hk1
  have hHs := hHs.same hk1
  obtain ⟨k0, hn_k0, rfl⟩ := vp_in_of hc_k0 (show 10000 < 2 ^ 31 by decide)
  refine lv_aload_n hx hb dX5_send_4 rfl (lv_at hl 0 rfl) ?_
  refine w_get (C := RX5) (T := TX5) (N := 7) (ci := 5) (v := .ref ((g 20))) hx hb hts hin5 hown hK hM 0 (by decide) rfl rfl 1 (by decide) (hts (.fieldLink RX5 19 "MixedBlocks" "history" "LMixedBlocks$History;") (List.mem_of_getElem? (i := 1) rfl)) (fun _ h9 => h9) rfl dX5_send_5 ?_
  refine lv_aload_n hx hb dX5_send_8 rfl (lv_at hl 0 rfl) ?_
  refine w_get (C := RX5) (T := TX5) (N := 7) (ci := 5) (v := .ref ((g 8))) hx hb hts hin5 hown hK hM 0 (by decide) rfl rfl 0 (by decide) (hts (.fieldLink RX5 12 "MixedBlocks" "now" "LMixedBlocks$State;") (List.mem_of_getElem? (i := 2) rfl)) (fun _ h9 => h9) rfl dX5_send_9 ?_
  refine va_callv (va_runV (As := [.ref ((g 8))]) (rest := []) ⟨hx, hb, hml, hown, hts⟩ (c_X1_keep l E (off g 20) ol ke zs (off g 8) z.1 z.2.1 z.2.2.1 z.2.2.2 (off_I hI (by decide)) (off_I hI (by decide)) (off_X hI (by decide) (by decide) (by decide)) hol hke) (cwV 1 hts gX5_send_X1_keep rfl rfl rfl (by decide +kernel) ⟨Nat.le_of_ble_eq_true rfl, Nat.le_of_ble_eq_true rfl⟩) ⟨wS.blind, (w_recv hK hHi 0 (by decide) rfl (ci := 1) rfl), fun U hU hW => wS.go ⟨hHi, hHs, hN⟩ hK wI0 hU hW⟩ rfl rfl hl.1 rfl (lv_room (Nat.le_of_ble_eq_true rfl)) dX5_send_12 ⟨Nat.le_of_ble_eq_true rfl, Nat.le_of_ble_eq_true rfl⟩) hS (fun q _ h => (off_in2 (o := 20) (n := 74) (o2 := 8) (n2 := 12) (by decide) (by decide)) q h) (off_in2 (o := 20) (n := 74) (o2 := 8) (n2 := 12) (by decide) (by decide)) (fun uu t H_2 locs_2 ht hvm hw hB hz1 hk1 hS => ?_)
  rw [ht] at hB
  obtain ⟨hHi, hHs, hN⟩ := hB
  have hHs : hiS E (off g 20) (va_up zs ((ol + ke) % 6) z) H_2 := hHs
  obtain ⟨hol2, hke2, hzs2⟩ := pushH_ok (z := z) hol hke hzs ⟨hnb2, hnb⟩
  have hM := hM.other hk1 ((off_M hI (by decide) (by decide)).out2 (off_M hI (by decide) (by decide)))
  have hPa := hPa.other hk1 ((off_X hI (by decide) (by decide) (by decide)).out2 (off_X hI (by decide) (by decide) (by decide)))
  have hEl := hEl.other hk1 ((off_X hI (by decide) (by decide) (by decide)).out2 (off_X hI (by decide) (by decide) (by decide)))
  have hTr := hTr.other hk1 ((off_X hI (by decide) (by decide) (by decide)).out2 (off_X hI (by decide) (by decide) (by decide)))
  refine lv_aload_n hx hb dX5_send_15 rfl (lv_at hl 0 rfl) ?_
  refine w_get (C := RX5) (T := TX5) (N := 7) (ci := 5) (v := .ref ((g 8))) hx hb hts hin5 hown hK hM 0 (by decide) rfl rfl 0 (by decide) (hts (.fieldLink RX5 12 "MixedBlocks" "now" "LMixedBlocks$State;") (List.mem_of_getElem? (i := 2) rfl)) (fun _ h9 => h9) rfl dX5_send_16 ?_
  refine lv_iload_n hx hb dX5_send_19 rfl (lv_at hl 1 rfl) ?_
  refine va_calli (va_runV (As := [.int ((nI k0))]) (rest := []) ⟨hx, hb, hml, hown, hts⟩ (c_X4_sendOne l E (off g 8) z.1 z.2.1 z.2.2.1 z.2.2.2 k0 (by omega) hnb2 hnb) (cwV 1 hts gX5_send_X4_sendOne rfl rfl rfl (by decide +kernel) ⟨Nat.le_of_ble_eq_true rfl, Nat.le_of_ble_eq_true rfl⟩) ⟨wSd.blind, (w_recv hK hN.1 0 (by decide) rfl (ci := 4) rfl), fun U hU hW => wSd.go hN hK (off_I hI (by decide)) hdg hS (off_in (o := 8) (n := 12) (by decide)) hU hW⟩ rfl rfl hl.1 rfl (lv_room (Nat.le_of_ble_eq_true rfl)) dX5_send_20 ⟨Nat.le_of_ble_eq_true rfl, Nat.le_of_ble_eq_true rfl⟩) hS (fun q _ h => (off_in (o := 8) (n := 12) (by decide)) q h) (off_in (o := 8) (n := 12) (by decide)) (fun r_3 uu t H_3 locs_3 ht hvm hw hB hz1 hk1 hS => ?_)
  rw [ht] at hB
  have hN := hB
  have hM := hM.other hk1 (off_M hI (by decide) (by decide)).out
  have hPa := hPa.other hk1 (off_X hI (by decide) (by decide) (by decide)).out
  have hEl := hEl.other hk1 (off_X hI (by decide) (by decide) (by decide)).out
  have hTr := hTr.other hk1 (off_X hI (by decide) (by decide) (by decide)).out
  have hHi := hHi.other hk1 (off_X hI (by decide) (by decide) (by decide)).out
  have hHs := hHs.other hk1 (off_X hI (by decide) (by decide) (by decide)).out
  obtain rfl : r_3 = (sumR (mixS z.1 z.2.1 k0) z.2.2.2 3) := hw
  refine vx_ret ?_
  refine W.widen (k := 1) (n := 6) (Nat.le_of_ble_eq_true rfl) (Nat.le_of_ble_eq_true rfl) ?_
  have hclk0 : (nI k0).toNatClampNeg = k0 := nI_clamp (by omega)
  exact W.iret (v := (sumR (mixS z.1 z.2.1 k0) z.2.2.2 3)) hx hb hr (fun t ht hW => ⟨⟨_, (), rfl, (by show _ = _; rw [hclk0]), (by show vp_in (nI k0) 10000 ∧ MB E g ln bf (sendZ z (nI k0).toNatClampNeg) (kpK ke) (pushH ke hs z) t.heap; rw [ht, hclk0]; exact ⟨hc_k0, ⟨(kpO ol ke), (va_up zs ((ol + ke) % 6) z), ⟨hol2, hke2, hzs2, hln, hnb2, hnb⟩, hM, ⟨⟨(pa.1, pa.2.1, pa.2.2), hPa⟩, ⟨(el.1, el.2), hEl⟩, ⟨tli, tq, hTr⟩⟩, hN, hHi, hHs⟩⟩)⟩, hS.F ht⟩) hS.2.2 dX5_send_23
set_option maxHeartbeats 4000000 in
set_option maxRecDepth 100000 in
theorem c_X5_forget (l : Launch) (hst : l.stackTraces = false) (E : wE) (g : Nat → Nat) (ln : Nat) (bf : Nat → Int32) (z : SS) (ke : Nat) (hs : Nat → SS) (x : Int32) : vx_Met l yX5_forget wsX5_forget ({ frames := 7, cells := 1, slots := 6, locals := 151 }) (va_Pc [.ref ((g 0)), .int x] (wSx E 94 g (wF 94 g) (MB E g ln bf z ke hs))) (va_Qi (fun (r : Int32) (_ : Unit) => r = swar (z.2.2.2 x.toNatClampNeg).2.1) (fun _ t => vp_in x 3 ∧ MB E g ln bf (recvZ z x.toNatClampNeg (fgR (z.2.2.2 x.toNatClampNeg))) (kpK ke) (pushH ke hs z) (t.heap)) (wF 94 g)) (vx_X (S := Unit) (fun _ => True) (fun Ex _ t => (Ex = "java/lang/IndexOutOfBoundsException" ∧ ¬ vp_in x 3) ∧ MB E g ln bf z ke hs (t.heap)) (wF 94 g)) 1 6 (wF 94 g) := by
  refine vx_ofW (cc := cX5_forget) (maxL := 4) (ret := (some .int)) (by decide) rfl ?_
  intro p e s m args below meth c s₁ B hml hno hv
  obtain ⟨rfl, ⟨ol, zs, ⟨hol, hke, hzs, hln, hnb2, hnb⟩, hM, ⟨⟨pa, hPa⟩, ⟨el, hEl⟩, ⟨tli, tq, hTr⟩⟩, hN, hHi, hHs⟩, hK, hI, hxe⟩ := hv
  have hx := B.exec
  have hb := B.bytes
  have hr := B.returns
  have hts := atoms_spec (ws := wsX5_forget) B.pre
  have hown : s.vm.findClass RX5 = some m.cls := findClass_of_methodNamed B.named
  have hlocks := B.notSynchronized
  have hS : va_S (wF 94 g) s.heap s.heap [] := va_S.rf
  have hin5 : ∀ w ∈ wsX50, w ∈ wsX5_forget := by decide +kernel
  have hl := lv_entry ([.ref ((g 0)), .int x]) (n := 4) (Nat.le_of_ble_eq_true rfl)
  rw [lg_entry_eq]
  generalize (lg_sl ([.ref ((g 0)), .int x]) ++ List.replicate (4 - (lg_sl ([.ref ((g 0)), .int x])).length) Slot.unset).toArray = ls at hl ⊢
  have hl : lv_has ls 4 [(0, .ref ((g 0))), (1, .int x)] := hl
  have hN : stP E (off g 8) z.1 z.2.1 z.2.2.1 z.2.2.2 s.heap := hN
  refine lv_aload_n hx hb dX5_forget_0 rfl (lv_at hl 0 rfl) ?_
  refine lv_iload_n hx hb dX5_forget_1 rfl (lv_at hl 1 rfl) ?_
  refine vx_callq (vx_runV (As := [.int x]) (rest := []) ⟨hx, hb, hml, hown, hts⟩ (c_X5_existing l hst E g ln bf z ke hs x) (cwV 1 hts gX5_forget_X5_existing rfl rfl rfl (by decide +kernel) ⟨Nat.le_of_ble_eq_true rfl, Nat.le_of_ble_eq_true rfl⟩) ⟨wSx.blind, (w_recv hK hM 0 (by decide) rfl (ci := 5) rfl), fun U hU hW => wSx.go ⟨ol, zs, ⟨hol, hke, hzs, hln, hnb2, hnb⟩, hM, ⟨⟨(pa.1, pa.2.1, pa.2.2), hPa⟩, ⟨(el.1, el.2), hEl⟩, ⟨tli, tq, hTr⟩⟩, hN, hHi, hHs⟩ hK hI hxe hS (fun q h => h) hU hW⟩ rfl rfl hl.1 rfl (lv_room (Nat.le_of_ble_eq_true rfl)) dX5_forget_2 ⟨Nat.le_of_ble_eq_true rfl, Nat.le_of_ble_eq_true rfl⟩) hS (fun q _ h => h) (fun q h => h) (fun q _ h => h) (fun E9 ce9 q9 uu t H_1 locs_1 ht hvm hpx hbx hz1 hk1 hS hc9 hv9 hf9 => ?_) (fun r_1 uu t H_1 locs_1 ht hvm hw hB hz1 hk1 hS => ?_)
  · exact vx_out (fun x hx => (hno x hx).elim) hlocks hc9 hv9 hf9 (fun t2 ht2 hvm2 => ⟨(), trivial, ⟨⟨hbx.1, hbx.2.1⟩, (by rw [ht2, ← ht]; exact hbx.2.2)⟩, hS.F ht2⟩) hS.2.2 (Nat.le_of_ble_eq_true rfl) (Nat.le_of_ble_eq_true rfl)
  rw [ht] at hB
  obtain ⟨hc_i, ⟨ol, zs, ⟨hol, hke, hzs, hln, hnb2, hnb⟩, hM, ⟨⟨pa, hPa⟩, ⟨el, hEl⟩, ⟨tli, tq, hTr⟩⟩, hN, hHi, hHs⟩⟩ := hB
  have hN : stP E (off g 8) z.1 z.2.1 z.2.2.1 z.2.2.2 _ := hN
  obtain rfl : r_1 = some (off g 8 (3 + 3 * x.toNatClampNeg)) := hw
  obtain ⟨i, hn_i, rfl⟩ := vp_in_of hc_i (show 3 < 2 ^ 31 by decide)
  rw [nI_clamp (show i < 2 ^ 31 by omega)]
  refine lv_astore_n (lv' := [(2, .ref ((off g 8 (3 + 3 * i)))), (0, .ref ((g 0))), (1, .int ((nI i)))]) hx hb dX5_forget_5 rfl hl (by decide) rfl (fun ls hl => ?_)
  refine lv_aload_n hx hb dX5_forget_6 rfl (lv_at hl 1 rfl) ?_
  refine w_get (C := RX5) (T := TX5) (N := 7) (ci := 5) (v := .ref ((g 20))) hx hb hts hin5 hown hK hM 0 (by decide) rfl rfl 1 (by decide) (hts (.fieldLink RX5 19 "MixedBlocks" "history" "LMixedBlocks$History;") (List.mem_of_getElem? (i := 1) rfl)) (fun _ h9 => h9) rfl dX5_forget_7 ?_
  refine lv_aload_n hx hb dX5_forget_10 rfl (lv_at hl 1 rfl) ?_
  refine w_get (C := RX5) (T := TX5) (N := 7) (ci := 5) (v := .ref ((g 8))) hx hb hts hin5 hown hK hM 0 (by decide) rfl rfl 0 (by decide) (hts (.fieldLink RX5 12 "MixedBlocks" "now" "LMixedBlocks$State;") (List.mem_of_getElem? (i := 2) rfl)) (fun _ h9 => h9) rfl dX5_forget_11 ?_
  refine va_callv (va_runV (As := [.ref ((g 8))]) (rest := []) ⟨hx, hb, hml, hown, hts⟩ (c_X1_keep l E (off g 20) ol ke zs (off g 8) z.1 z.2.1 z.2.2.1 z.2.2.2 (off_I hI (by decide)) (off_I hI (by decide)) (off_X hI (by decide) (by decide) (by decide)) hol hke) (cwV 1 hts gX5_forget_X1_keep rfl rfl rfl (by decide +kernel) ⟨Nat.le_of_ble_eq_true rfl, Nat.le_of_ble_eq_true rfl⟩) ⟨wS.blind, (w_recv hK hHi 0 (by decide) rfl (ci := 1) rfl), fun U hU hW => wS.go ⟨hHi, hHs, hN⟩ hK wI0 hU hW⟩ rfl rfl hl.1 rfl (lv_room (Nat.le_of_ble_eq_true rfl)) dX5_forget_14 ⟨Nat.le_of_ble_eq_true rfl, Nat.le_of_ble_eq_true rfl⟩) hS (fun q _ h => (off_in2 (o := 20) (n := 74) (o2 := 8) (n2 := 12) (by decide) (by decide)) q h) (off_in2 (o := 20) (n := 74) (o2 := 8) (n2 := 12) (by decide) (by decide)) (fun uu t H_2 locs_2 ht hvm hw hB hz1 hk1 hS => ?_)
  rw [ht] at hB
  obtain ⟨hHi, hHs, hN⟩ := hB
  have hHs : hiS E (off g 20) (va_up zs ((ol + ke) % 6) z) H_2 := hHs
  obtain ⟨hol2, hke2, hzs2⟩ := pushH_ok (z := z) hol hke hzs ⟨hnb2, hnb⟩
  have hM := hM.other hk1 ((off_M hI (by decide) (by decide)).out2 (off_M hI (by decide) (by decide)))
  have hPa := hPa.other hk1 ((off_X hI (by decide) (by decide) (by decide)).out2 (off_X hI (by decide) (by decide) (by decide)))
  have hEl := hEl.other hk1 ((off_X hI (by decide) (by decide) (by decide)).out2 (off_X hI (by decide) (by decide) (by decide)))
  have hTr := hTr.other hk1 ((off_X hI (by decide) (by decide) (by decide)).out2 (off_X hI (by decide) (by decide) (by decide)))
  refine lv_aload_n hx hb dX5_forget_17 rfl (lv_at hl 0 rfl) ?_
  have hRi := hN.2 i (by omega)
  obtain ⟨hlnI, lfI, hlfI, hPI⟩ := id hRi
  refine va_calli (va_runV (As := []) (rest := []) ⟨hx, hb, hml, hown, hts⟩ (c_X3_knows l E (rg (off g 8) i) (z.2.2.2 i).1 (z.2.2.2 i).2.1 (z.2.2.2 i).2.2.1 (z.2.2.2 i).2.2.2.1 (z.2.2.2 i).2.2.2.2.1 (z.2.2.2 i).2.2.2.2.2.1 (z.2.2.2 i).2.2.2.2.2.2) (cwV 0 hts gX5_forget_X3_knows rfl rfl rfl (by decide +kernel) ⟨Nat.le_of_ble_eq_true rfl, Nat.le_of_ble_eq_true rfl⟩) ⟨wS.blind, (w_recv hK hPI 0 (by decide) rfl (ci := 3) rfl), fun U hU hW => wS.go hRi hK (rg_I (off_I hI (by decide)) (by omega)) hU hW⟩ rfl rfl hl.1 rfl (lv_room (Nat.le_of_ble_eq_true rfl)) dX5_forget_18 ⟨Nat.le_of_ble_eq_true rfl, Nat.le_of_ble_eq_true rfl⟩) hS (fun q _ h => h.elim) (fun q h => h.elim) (fun r_3 uu t H_3 locs_3 ht hvm hw hB hz1 hk1 hS => ?_)
  have hM := hM.same hk1
  have hPa := hPa.same hk1
  have hEl := hEl.same hk1
  have hTr := hTr.same hk1
  have hN := hN.same hk1
  have hHi := hHi.same hk1
  have hHs := hHs.same hk1
  obtain rfl : r_3 = (swar (z.2.2.2 i).2.1) := hw
  refine lv_istore_n (lv' := [(3, .int ((swar (z.2.2.2 i).2.1))), (2, .ref ((off g 8 (3 + 3 * i)))), (0, .ref ((g 0))), (1, .int ((nI i)))]) hx hb dX5_forget_21 rfl hl (by decide) rfl (fun ls hl => ?_)
  refine lv_aload_n hx hb dX5_forget_22 rfl (lv_at hl 1 rfl) ?_
  have hRi := hN.2 i (by omega)
  obtain ⟨hlnI, lfI, hlfI, hPI⟩ := id hRi
  refine va_callv (va_runV (As := []) (rest := []) ⟨hx, hb, hml, hown, hts⟩ (c_X3_forgetAll l E (rg (off g 8) i) (z.2.2.2 i).1 (z.2.2.2 i).2.1 (z.2.2.2 i).2.2.1 (z.2.2.2 i).2.2.2.1 (z.2.2.2 i).2.2.2.2.1 (z.2.2.2 i).2.2.2.2.2.1 (z.2.2.2 i).2.2.2.2.2.2) (cwV 0 hts gX5_forget_X3_forgetAll rfl rfl rfl (by decide +kernel) ⟨Nat.le_of_ble_eq_true rfl, Nat.le_of_ble_eq_true rfl⟩) ⟨wS.blind, (w_recv hK hPI 0 (by decide) rfl (ci := 3) rfl), fun U hU hW => wS.go hRi hK (rg_I (off_I hI (by decide)) (by omega)) hU hW⟩ rfl rfl hl.1 rfl (lv_room (Nat.le_of_ble_eq_true rfl)) dX5_forget_23 ⟨Nat.le_of_ble_eq_true rfl, Nat.le_of_ble_eq_true rfl⟩) hS (fun q _ h => (off_inr (i := i) (by omega)) q h) (off_inr (i := i) (by omega)) (fun uu t H_4 locs_4 ht hvm hw hB hz1 hk1 hS => ?_)
  rw [ht] at hB
  have hN : stP E (off g 8) z.1 z.2.1 z.2.2.1 (va_up z.2.2.2 i (fgR (z.2.2.2 i))) H_4 := ⟨hN.1.other hk1 (rg_main (off_I hI (by decide)) (by omega)), hN.2.set (off_I hI (by decide)) (by omega) hk1 (r := fgR (z.2.2.2 i)) hB⟩
  have hM := hM.other hk1 ((off_M (n2 := 12) hI (by decide) (by decide)).rg (by omega)).out
  have hPa := hPa.other hk1 ((off_X (n2 := 12) hI (by decide) (by decide) (by decide)).rg (by omega)).out
  have hEl := hEl.other hk1 ((off_X (n2 := 12) hI (by decide) (by decide) (by decide)).rg (by omega)).out
  have hTr := hTr.other hk1 ((off_X (n2 := 12) hI (by decide) (by decide) (by decide)).rg (by omega)).out
  have hHi := hHi.other hk1 ((off_X (n2 := 12) hI (by decide) (by decide) (by decide)).rg (by omega)).out
  have hHs := hHs.other hk1 ((off_X (n2 := 12) hI (by decide) (by decide) (by decide)).rg (by omega)).out
  refine lv_iload_n hx hb dX5_forget_26 rfl (lv_at hl 0 rfl) ?_
  refine vx_ret ?_
  refine W.widen (k := 1) (n := 6) (Nat.le_of_ble_eq_true rfl) (Nat.le_of_ble_eq_true rfl) ?_
  exact W.iret (v := (swar (z.2.2.2 i).2.1)) hx hb hr (fun t ht hW => ⟨⟨_, (), rfl, rfl, (by show vp_in (nI i) 3 ∧ MB E g ln bf (recvZ z i (fgR (z.2.2.2 i))) (kpK ke) (pushH ke hs z) t.heap; rw [ht]; exact ⟨hc_i, ⟨(kpO ol ke), (va_up zs ((ol + ke) % 6) z), ⟨hol2, hke2, hzs2, hln, hnb2, hnb⟩, hM, ⟨⟨(pa.1, pa.2.1, pa.2.2), hPa⟩, ⟨(el.1, el.2), hEl⟩, ⟨tli, tq, hTr⟩⟩, hN, hHi, hHs⟩⟩)⟩, hS.F ht⟩) hS.2.2 dX5_forget_27
set_option maxHeartbeats 4000000 in
set_option maxRecDepth 100000 in
theorem c_X5_block (l : Launch) (hst : l.stackTraces = false) (E : wE) (g : Nat → Nat) (ln : Nat) (bf : Nat → Int32) (z : SS) (ke : Nat) (hs : Nat → SS) (x : Int32) : vx_Met l yX5_block wsX5_block ({ frames := 7, cells := 1, slots := 6, locals := 111 }) (va_Pc [.ref ((g 0)), .int x] (wSx E 94 g (wF 94 g) (MB E g ln bf z ke hs))) (va_Qi (fun (r : Int32) (_ : Unit) => r = z.2.1 x.toNatClampNeg) (fun _ t => vp_in x z.1 ∧ MB E g ln bf z ke hs (t.heap)) (wF 94 g)) (vx_X (S := Unit) (fun _ => True) (fun Ex _ t => (Ex = "java/lang/IndexOutOfBoundsException" ∧ ¬ vp_in x z.1) ∧ MB E g ln bf z ke hs (t.heap)) (wF 94 g)) 1 6 (wF 94 g) := by
  refine vx_ofW (cc := cX5_block) (maxL := 2) (ret := (some .int)) (by decide) rfl ?_
  intro p e s m args below meth c s₁ B hml hno hv
  obtain ⟨rfl, ⟨ol, zs, ⟨hol, hke, hzs, hln, hnb2, hnb⟩, hM, ⟨⟨pa, hPa⟩, ⟨el, hEl⟩, ⟨tli, tq, hTr⟩⟩, hN, hHi, hHs⟩, hK, hI, hxe⟩ := hv
  have hx := B.exec
  have hb := B.bytes
  have hr := B.returns
  have hts := atoms_spec (ws := wsX5_block) B.pre
  have hown : s.vm.findClass RX5 = some m.cls := findClass_of_methodNamed B.named
  have hlocks := B.notSynchronized
  have hS : va_S (wF 94 g) s.heap s.heap [] := va_S.rf
  have hin5 : ∀ w ∈ wsX50, w ∈ wsX5_block := by decide +kernel
  have hl := lv_entry ([.ref ((g 0)), .int x]) (n := 2) (Nat.le_of_ble_eq_true rfl)
  rw [lg_entry_eq]
  generalize (lg_sl ([.ref ((g 0)), .int x]) ++ List.replicate (2 - (lg_sl ([.ref ((g 0)), .int x])).length) Slot.unset).toArray = ls at hl ⊢
  have hl : lv_has ls 2 [(0, .ref ((g 0))), (1, .int x)] := hl
  have hN : stP E (off g 8) z.1 z.2.1 z.2.2.1 z.2.2.2 s.heap := hN
  refine lv_aload_n hx hb dX5_block_0 rfl (lv_at hl 0 rfl) ?_
  refine lv_iload_n hx hb dX5_block_1 rfl (lv_at hl 1 rfl) ?_
  refine vx_callv (vx_runV (As := [.int x]) (rest := []) ⟨hx, hb, hml, hown, hts⟩ (c_X5_checkBlock l hst E g ln bf z ke hs x) (cwV 1 hts gX5_block_X5_checkBlock rfl rfl rfl (by decide +kernel) ⟨Nat.le_of_ble_eq_true rfl, Nat.le_of_ble_eq_true rfl⟩) ⟨wSx.blind, (w_recv hK hM 0 (by decide) rfl (ci := 5) rfl), fun U hU hW => wSx.go ⟨ol, zs, ⟨hol, hke, hzs, hln, hnb2, hnb⟩, hM, ⟨⟨(pa.1, pa.2.1, pa.2.2), hPa⟩, ⟨(el.1, el.2), hEl⟩, ⟨tli, tq, hTr⟩⟩, hN, hHi, hHs⟩ hK hI hxe hS (fun q h => h) hU hW⟩ rfl rfl hl.1 rfl (lv_room (Nat.le_of_ble_eq_true rfl)) dX5_block_2 ⟨Nat.le_of_ble_eq_true rfl, Nat.le_of_ble_eq_true rfl⟩) hS (fun q _ h => h) (fun q h => h) (fun q _ h => h) (fun E9 ce9 q9 uu t H_1 locs_1 ht hvm hpx hbx hz1 hk1 hS hc9 hv9 hf9 => ?_) (fun uu t H_1 locs_1 ht hvm hw hB hz1 hk1 hS => ?_)
  · exact vx_out (fun x hx => (hno x hx).elim) hlocks hc9 hv9 hf9 (fun t2 ht2 hvm2 => ⟨(), trivial, ⟨⟨hbx.1, hbx.2.1⟩, (by rw [ht2, ← ht]; exact hbx.2.2)⟩, hS.F ht2⟩) hS.2.2 (Nat.le_of_ble_eq_true rfl) (Nat.le_of_ble_eq_true rfl)
  rw [ht] at hB
  obtain ⟨hc_b, ⟨ol, zs, ⟨hol, hke, hzs, hln, hnb2, hnb⟩, hM, ⟨⟨pa, hPa⟩, ⟨el, hEl⟩, ⟨tli, tq, hTr⟩⟩, hN, hHi, hHs⟩⟩ := hB
  have hN : stP E (off g 8) z.1 z.2.1 z.2.2.1 z.2.2.2 _ := hN
  obtain ⟨b, hn_b, rfl⟩ := vp_in_of hc_b (show z.1 < 2 ^ 31 by omega)
  refine lv_aload_n hx hb dX5_block_5 rfl (lv_at hl 0 rfl) ?_
  refine w_get (C := RX5) (T := TX5) (N := 7) (ci := 5) (v := .ref ((g 8))) hx hb hts hin5 hown hK hM 0 (by decide) rfl rfl 0 (by decide) (hts (.fieldLink RX5 12 "MixedBlocks" "now" "LMixedBlocks$State;") (List.mem_of_getElem? (i := 1) rfl)) (fun _ h9 => h9) rfl dX5_block_6 ?_
  refine lv_iload_n hx hb dX5_block_9 rfl (lv_at hl 1 rfl) ?_
  refine va_calli (va_runV (As := [.int ((nI b))]) (rest := []) ⟨hx, hb, hml, hown, hts⟩ (c_X4_valueAt l E (off g 8) z.1 z.2.1 z.2.2.1 z.2.2.2 b (by omega)) (cwV 1 hts gX5_block_X4_valueAt rfl rfl rfl (by decide +kernel) ⟨Nat.le_of_ble_eq_true rfl, Nat.le_of_ble_eq_true rfl⟩) ⟨wS.blind, (w_recv hK hN.1 0 (by decide) rfl (ci := 4) rfl), fun U hU hW => wS.go hN hK (off_I hI (by decide)) hU hW⟩ rfl rfl hl.1 rfl (lv_room (Nat.le_of_ble_eq_true rfl)) dX5_block_10 ⟨Nat.le_of_ble_eq_true rfl, Nat.le_of_ble_eq_true rfl⟩) hS (fun q _ h => h.elim) (fun q h => h.elim) (fun r_2 uu t H_2 locs_2 ht hvm hw hB hz1 hk1 hS => ?_)
  have hM := hM.same hk1
  have hPa := hPa.same hk1
  have hEl := hEl.same hk1
  have hTr := hTr.same hk1
  have hN := hN.same hk1
  have hHi := hHi.same hk1
  have hHs := hHs.same hk1
  obtain rfl : r_2 = (z.2.1 b) := hw
  refine vx_ret ?_
  refine W.widen (k := 1) (n := 6) (Nat.le_of_ble_eq_true rfl) (Nat.le_of_ble_eq_true rfl) ?_
  have hclb : (nI b).toNatClampNeg = b := nI_clamp (by omega)
  exact W.iret (v := (z.2.1 b)) hx hb hr (fun t ht hW => ⟨⟨_, (), rfl, (by show _ = _; rw [hclb]), (by show vp_in (nI b) z.1 ∧ MB E g ln bf z ke hs t.heap; rw [ht]; exact ⟨hc_b, ⟨ol, zs, ⟨hol, hke, hzs, hln, hnb2, hnb⟩, hM, ⟨⟨(pa.1, pa.2.1, pa.2.2), hPa⟩, ⟨(el.1, el.2), hEl⟩, ⟨tli, tq, hTr⟩⟩, hN, hHi, hHs⟩⟩)⟩, hS.F ht⟩) hS.2.2 dX5_block_13
