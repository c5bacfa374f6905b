set_option maxHeartbeats 4000000 in
set_option maxRecDepth 100000 in
theorem c_X3_share (l : Launch) (E : wE) (g : Nat → Nat) (li : Bool) (kb : Int32) (al : Nat → Int32) (L : List Int32) (go tn lo : Int32) : Met l yX3_share wsX3_share ({ frames := 0, cells := 0, slots := 0, locals := 0 }) (va_Pc [.ref ((g 0))] (wS E 3 g (rcP E g li kb al L go tn lo))) (va_Qd (fun (r : UInt64) (_ : Unit) => r = shF go tn lo) (fun _ t => True) wN) 0 0 wN := by
  refine Met.ofW (cc := cX3_share) (maxL := 1) (ret := (some .double)) (by decide) rfl ?_
  intro p e s m args below meth c s₁ B hml hv
  obtain ⟨rfl, ⟨hln, lf, hlf, hP⟩, hK, hI⟩ := hv
  have hx := B.exec
  have hb := B.bytes
  have hr := B.returns
  have hts := atoms_spec (ws := wsX3_share) B.pre
  have hown : s.vm.findClass RX3 = some m.cls := findClass_of_methodNamed B.named
  have hlocks := B.notSynchronized
  have hS : va_S wN s.heap s.heap [] := va_S.rf
  have hin3 : ∀ w ∈ wsX30, w ∈ wsX3_share := by decide +kernel
  have hl := lv_entry ([.ref ((g 0))]) (n := 1) (Nat.le_of_ble_eq_true rfl)
  rw [lg_entry_eq]
  generalize (lg_sl ([.ref ((g 0))]) ++ List.replicate (1 - (lg_sl ([.ref ((g 0))])).length) Slot.unset).toArray = ls at hl ⊢
  have hl : lv_has ls 1 [(0, .ref ((g 0)))] := hl
  refine lv_aload_n hx hb dX3_share_0 rfl (lv_at hl 0 rfl) ?_
  refine w_get (C := RX3) (T := TX3) (N := 8) (ci := 3) (v := .int go) hx hb hts hin3 hown hK hP 0 (by decide) rfl rfl 5 (by decide) (hts (.fieldLink RX3 33 "MixedBlocks$Receiver" "got" "I") (List.mem_of_getElem? (i := 1) rfl)) (fun _ h9 => h9) rfl dX3_share_1 ?_
  refine lv_if_gt (tgt := 9) hx hb dX3_share_4 (by decide) (fun c_1 => ?_) (fun c_1 => ?_)
  · refine lv_aload_n hx hb dX3_share_9 rfl (lv_at hl 0 rfl) ?_
    refine w_get (C := RX3) (T := TX3) (N := 8) (ci := 3) (v := .int go) hx hb hts hin3 hown hK hP 0 (by decide) rfl rfl 5 (by decide) (hts (.fieldLink RX3 33 "MixedBlocks$Receiver" "got" "I") (List.mem_of_getElem? (i := 1) rfl)) (fun _ h9 => h9) rfl dX3_share_10 ?_
    refine lv_aload_n hx hb dX3_share_13 rfl (lv_at hl 0 rfl) ?_
    refine w_get (C := RX3) (T := TX3) (N := 8) (ci := 3) (v := .int tn) hx hb hts hin3 hown hK hP 0 (by decide) rfl rfl 6 (by decide) (hts (.fieldLink RX3 36 "MixedBlocks$Receiver" "toldNothing" "I") (List.mem_of_getElem? (i := 2) rfl)) (fun _ h9 => h9) rfl dX3_share_14 ?_
    refine lv_isub hx hb dX3_share_17 ?_
    refine lv_aload_n hx hb dX3_share_18 rfl (lv_at hl 0 rfl) ?_
    refine w_get (C := RX3) (T := TX3) (N := 8) (ci := 3) (v := .int lo) hx hb hts hin3 hown hK hP 0 (by decide) rfl rfl 7 (by decide) (hts (.fieldLink RX3 39 "MixedBlocks$Receiver" "lost" "I") (List.mem_of_getElem? (i := 3) rfl)) (fun _ h9 => h9) rfl dX3_share_19 ?_
    refine lv_isub hx hb dX3_share_22 ?_
    refine lv_i2d hx hb dX3_share_23 ?_
    refine lv_aload_n hx hb dX3_share_24 rfl (lv_at hl 0 rfl) ?_
    refine w_get (C := RX3) (T := TX3) (N := 8) (ci := 3) (v := .int go) hx hb hts hin3 hown hK hP 0 (by decide) rfl rfl 5 (by decide) (hts (.fieldLink RX3 33 "MixedBlocks$Receiver" "got" "I") (List.mem_of_getElem? (i := 1) rfl)) (fun _ h9 => h9) rfl dX3_share_25 ?_
    refine lv_i2d hx hb dX3_share_28 ?_
    refine lv_ddiv hx hb dX3_share_29 (nn64 (nn_sh (fun z => by rw [z] at c_1; exact absurd c_1 (by decide)))) ?_
    exact W.dret (v := (FP.ddiv (FP.i2d ((go - tn) - lo)) (FP.i2d go))) hx hb hr (fun t ht hW => ⟨⟨_, (), rfl, (by show _ = _; rw [shF, if_pos c_1]; rfl), trivial⟩, hS.F ht⟩) hS.2.2 dX3_share_30
  · refine lv_dconst1 hx hb dX3_share_7 ?_
    exact W.dret (v := FP.dconst1) hx hb hr (fun t ht hW => ⟨⟨_, (), rfl, (by show _ = _; rw [shF, if_neg c_1]), trivial⟩, hS.F ht⟩) hS.2.2 dX3_share_8
