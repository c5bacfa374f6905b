set_option maxHeartbeats 4000000 in
set_option maxRecDepth 100000 in
theorem c_X3_share (l : Launch) (E : wE) (g : Nat → Nat) (li : Bool) (kb : Int32) (al : Nat → Int32) (L : List Int32) (go tn lo : Int32) : Met l yX3_share wsX3_share ({ frames := 0, cells := 0, slots := 0, locals := 0 }) (va_Pc [.ref ((g 0))] (wS E 3 g (rcP E g li kb al L go tn lo))) (va_Qd (fun (r : UInt64) (_ : Unit) => r = shF go tn lo) (fun _ t => True) wN) 0 0 wN := by
  refine Met.ofW (cc := cX3_share) (maxL := 1) (ret := (some .double)) (by decide) rfl ?_
  intro p e s m args below meth c s₁ B hml hv
  obtain ⟨rfl, ⟨hln, lf, hlf, hP⟩, hK, hI⟩ := hv
  have hx := B.exec
  have hb := B.bytes
  have hr := B.returns
  have hts := atoms_spec (ws := wsX3_share) B.pre
  have hown : s.vm.findClass RX3 = some m.cls := findClass_of_methodNamed B.named
  have hlocks := B.notSynchronized
  have hS : va_S wN s.heap s.heap [] := va_S.rf
  have hin3 : ∀ w ∈ wsX30, w ∈ wsX3_share := by decide +kernel
  have hl := lv_entry ([.ref ((g 0))]) (n := 1) (Nat.le_of_ble_eq_true rfl)
  rw [lg_entry_eq]
  generalize (lg_sl ([.ref ((g 0))]) ++ List.replicate (1 - (lg_sl ([.ref ((g 0))])).length) Slot.unset).toArray = ls at hl ⊢
  have hl : lv_has ls 1 [(0, .ref ((g 0)))] := hl
  refine lv_aload_n hx hb dX3_share_0 rfl (lv_at hl 0 rfl) ?_
  refine w_get (C := RX3) (T := TX3) (N := 8) (ci := 3) (v := .int go) hx hb hts hin3 hown hK hP 0 (by decide) rfl rfl 5 (by decide) (hts (.fieldLink RX3 33 "MixedBlocks$Receiver" "got" "I") (List.mem_of_getElem? (i := 1) rfl)) (fun _ h9 => h9) rfl dX3_share_1 ?_
  refine lv_if_gt (tgt := 9) hx hb dX3_share_4 (by decide) (fun c_1 => ?_) (fun c_1 => ?_)
  · refine lv_aload_n hx hb dX3_share_9 rfl (lv_at hl 0 rfl) ?_
    refine w_get (C := RX3) (T := TX3) (N := 8) (ci := 3) (v := .int go) hx hb hts hin3 hown hK hP 0 (by decide) rfl rfl 5 (by decide) (hts (.fieldLink RX3 33 "MixedBlocks$Receiver" "got" "I") (List.mem_of_getElem? (i := 1) rfl)) (fun _ h9 => h9) rfl dX3_share_10 ?_
    refine lv_aload_n hx hb dX3_share_13 rfl (lv_at hl 0 rfl) ?_
    refine w_get (C := RX3) (T := TX3) (N := 8) (ci := 3) (v := .int tn) hx hb hts hin3 hown hK hP 0 (by decide) rfl rfl 6 (by decide) (hts (.fieldLink RX3 36 "MixedBlocks$Receiver" "toldNothing" "I") (List.mem_of_getElem? (i := 2) rfl)) (fun _ h9 => h9) rfl dX3_share_14 ?_
    refine lv_isub hx hb dX3_share_17 ?_
    refine lv_aload_n hx hb dX3_share_18 rfl (lv_at hl 0 rfl) ?_
    refine w_get (C := RX3) (T := TX3) (N := 8) (ci := 3) (v := .int lo) hx hb hts hin3 hown hK hP 0 (by decide) rfl rfl 7 (by decide) (hts (.fieldLink RX3 39 "MixedBlocks$Receiver" "lost" "I") (List.mem_of_getElem? (i := 3) rfl)) (fun _ h9 => h9) rfl dX3_share_19 ?_
    refine lv_isub hx hb dX3_share_22 ?_
    refine lv_i2d hx hb dX3_share_23 ?_
    refine lv_aload_n hx hb dX3_share_24 rfl (lv_at hl 0 rfl) ?_
    refine w_get (C := RX3) (T := TX3) (N := 8) (ci := 3) (v := .int go) hx hb hts hin3 hown hK hP 0 (by decide) rfl rfl 5 (by decide) (hts (.fieldLink RX3 33 "MixedBlocks$Receiver" "got" "I") (List.mem_of_getElem? (i := 1) rfl)) (fun _ h9 => h9) rfl dX3_share_25 ?_
    refine lv_i2d hx hb dX3_share_28 ?_
    refine lv_ddiv hx hb dX3_share_29 (nn64 (nn_sh (fun z => by rw [z] at c_1; exact absurd c_1 (by decide)))) ?_
    exact W.dret (v := (FP.ddiv (FP.i2d ((go - tn) - lo)) (FP.i2d go))) hx hb hr (fun t ht hW => ⟨⟨_, (), rfl, (by show _ = _; rw [shF, if_pos c_1]; rfl), trivial⟩, hS.F ht⟩) hS.2.2 dX3_share_30
  · refine lv_dconst1 hx hb dX3_share_7 ?_
    exact W.dret (v := FP.dconst1) hx hb hr (fun t ht hW => ⟨⟨_, (), rfl, (by show _ = _; rw [shF, if_neg c_1]), trivial⟩, hS.F ht⟩) hS.2.2 dX3_share_8
set_option maxHeartbeats 4000000 in
set_option maxRecDepth 100000 in
theorem c_X5_bitsOf (l : Launch) (x : UInt64) (hnn : FP.Core.dIsNaN x = false) : Met l yX5_bitsOf wsX5_bitsOf ({ frames := 0, cells := 0, slots := 0, locals := 0 }) (va_Pc [.double x] (fun _ => True)) (va_Ql (fun (r : Int64) (_ : Unit) => r = bcF x) (fun _ t => True) wN) 0 0 wN := by
  refine Met.ofW (cc := cX5_bitsOf) (maxL := 7) (ret := (some .long)) (by decide) rfl ?_
  intro p e s m args below meth c s₁ B hml hv
  obtain ⟨rfl, -⟩ := hv
  have hx := B.exec
  have hb := B.bytes
  have hr := B.returns
  have hts := atoms_spec (ws := wsX5_bitsOf) B.pre
  have hown : s.vm.findClass RX5 = some m.cls := findClass_of_methodNamed B.named
  have hlocks := B.notSynchronized
  have hS : va_S wN s.heap s.heap [] := va_S.rf
  have hl := lv_entry ([.double x]) (n := 7) (Nat.le_of_ble_eq_true rfl)
  rw [lg_entry_eq]
  generalize (lg_sl ([.double x]) ++ List.replicate (7 - (lg_sl ([.double x])).length) Slot.unset).toArray = ls at hl ⊢
  have hl : lv_has ls 7 [(0, .double x)] := hl
  refine lv_dload_n hx hb dX5_bitsOf_0 rfl (lv_at hl 0 rfl) ?_
  refine lv_dconst0 hx hb dX5_bitsOf_1 ?_
  refine lv_dcmp hx hb dX5_bitsOf_2 ?_
  refine lv_if_gt (tgt := 8) hx hb dX5_bitsOf_3 (by decide) (fun c_1 => ?_) (fun c_1 => ?_)
  · refine lv_dload_n hx hb dX5_bitsOf_8 rfl (lv_at hl 0 rfl) ?_
    refine lv_dstore_n (lv' := [(2, .double x), (0, .double x)]) hx hb dX5_bitsOf_9 rfl hl (by decide) rfl (fun ls hl => ?_)
    refine lv_ldc2 hx hb hown (hts (.constantLong RX5 300 (1023)) (List.mem_of_getElem? (i := 1) rfl)) dX5_bitsOf_10 ?_
    refine lv_lstore (lv' := [(4, .long 1023), (2, .double x), (0, .double x)]) hx hb dX5_bitsOf_13 hl (by decide) rfl (fun ls hl => ?_)
    refine lv_iconst (v := 0) hx hb dX5_bitsOf_15 (by decide) ?_
    refine lv_istore (lv' := [(6, .int 0), (4, .long 1023), (2, .double x), (0, .double x)]) hx hb dX5_bitsOf_16 hl (by decide) rfl (fun ls hl => ?_)
    have L18 : ∀ (k : Nat) (i : Nat) (e2 : Int64) (y : UInt64) (H : Heap) (locs : List Loc) (ls : Array Slot), i + k = 1022 → FP.Core.dIsNaN y = false → bsF k e2 y = bsF 1022 1023 x → va_S wN s.heap H locs → lv_has ls 7 [(6, .int (nI i)), (4, .long e2), (2, .double y), (0, .double x)] → W p l e (headSpec wsX5_bitsOf ({ frames := 0, cells := 0, slots := 0, locals := 0 })).room s m ([.double x] : List Value).toArray below meth c H locs 0 0 (MQ below (va_Ql (fun (r : Int64) (_ : Unit) => r = bcF x) (fun _ t => True) wN) ([.double x] : List Value).toArray s 0 0 wN) (F0 m 18 ls []) := by
      intro k
      induction k with
      | zero =>
        intro i e2 y H locs ls hi hnn2 hres hS hl
        refine lv_iload hx hb dX5_bitsOf_18 (lv_at hl 0 rfl) ?_
        refine lv_sipush (v := 1022) hx hb dX5_bitsOf_20 (by decide) ?_
        refine lv_icmp_ge (tgt := 50) hx hb dX5_bitsOf_23 (by decide) (fun c_2 => ?_) (fun c_2 => ?_)
        · refine lv_lload hx hb dX5_bitsOf_50 (lv_at hl 1 rfl) ?_
          refine lv_bipush (v := 52) hx hb dX5_bitsOf_52 (by decide) ?_
          refine lv_lshl (v := e2 * 4503599627370496) hx hb dX5_bitsOf_54 (sh52 _) ?_
          refine lv_dload_n hx hb dX5_bitsOf_55 rfl (lv_at hl 2 rfl) ?_
          refine lv_dconst1 hx hb dX5_bitsOf_56 ?_
          refine lv_dsub hx hb dX5_bitsOf_57 (nn64 (nn_s1 hnn2)) ?_
          refine lv_ldc2d hx hb hown (hts (.constantDouble RX5 304 (4841369599423283200)) (List.mem_of_getElem? (i := 3) rfl)) dX5_bitsOf_58 ?_
          refine lv_dmul hx hb dX5_bitsOf_61 (nn64 (nn_mc (nn_s1 hnn2))) ?_
          refine lv_d2l hx hb dX5_bitsOf_62 ?_
          refine lv_ladd hx hb dX5_bitsOf_63 ?_
          have hq := hres.symm
          exact W.lret (v := ((e2 * 4503599627370496) + (FP.d2l (FP.dmul (FP.dsub y FP.dconst1) 4841369599423283200)))) hx hb hr (fun t ht hW => ⟨⟨_, (), rfl, (by show _ = _; rw [bcF, if_pos c_1, hq]; rfl), trivial⟩, hS.F ht⟩) hS.2.2 dX5_bitsOf_64
        · exact absurd (nI_le (a := 1022) (b := i) (by omega) (by omega)) c_2
      | succ k ih =>
        intro i e2 y H locs ls hi hnn2 hres hS hl
        refine lv_iload hx hb dX5_bitsOf_18 (lv_at hl 0 rfl) ?_
        refine lv_sipush (v := 1022) hx hb dX5_bitsOf_20 (by decide) ?_
        refine lv_icmp_ge (tgt := 50) hx hb dX5_bitsOf_23 (by decide) (fun c_3 => ?_) (fun c_3 => ?_)
        · exact absurd ((nI_leI (a := 1022) (b := i) (by omega) (by omega)).mp c_3) (by omega)
        · refine lv_dload_n hx hb dX5_bitsOf_26 rfl (lv_at hl 2 rfl) ?_
          refine lv_dconst1 hx hb dX5_bitsOf_27 ?_
          refine lv_dcmp hx hb dX5_bitsOf_28 ?_
          refine lv_if_ge (tgt := 50) hx hb dX5_bitsOf_29 (by decide) (fun c_4 => ?_) (fun c_4 => ?_)
          · refine lv_lload hx hb dX5_bitsOf_50 (lv_at hl 1 rfl) ?_
            refine lv_bipush (v := 52) hx hb dX5_bitsOf_52 (by decide) ?_
            refine lv_lshl (v := e2 * 4503599627370496) hx hb dX5_bitsOf_54 (sh52 _) ?_
            refine lv_dload_n hx hb dX5_bitsOf_55 rfl (lv_at hl 2 rfl) ?_
            refine lv_dconst1 hx hb dX5_bitsOf_56 ?_
            refine lv_dsub hx hb dX5_bitsOf_57 (nn64 (nn_s1 hnn2)) ?_
            refine lv_ldc2d hx hb hown (hts (.constantDouble RX5 304 (4841369599423283200)) (List.mem_of_getElem? (i := 3) rfl)) dX5_bitsOf_58 ?_
            refine lv_dmul hx hb dX5_bitsOf_61 (nn64 (nn_mc (nn_s1 hnn2))) ?_
            refine lv_d2l hx hb dX5_bitsOf_62 ?_
            refine lv_ladd hx hb dX5_bitsOf_63 ?_
            have hq := hres.symm.trans (bsF_y c_4)
            exact W.lret (v := ((e2 * 4503599627370496) + (FP.d2l (FP.dmul (FP.dsub y FP.dconst1) 4841369599423283200)))) hx hb hr (fun t ht hW => ⟨⟨_, (), rfl, (by show _ = _; rw [bcF, if_pos c_1, hq]; rfl), trivial⟩, hS.F ht⟩) hS.2.2 dX5_bitsOf_64
          · refine lv_dload_n hx hb dX5_bitsOf_32 rfl (lv_at hl 2 rfl) ?_
            refine lv_ldc2d hx hb hown (hts (.constantDouble RX5 302 (4611686018427387904)) (List.mem_of_getElem? (i := 2) rfl)) dX5_bitsOf_33 ?_
            refine lv_dmul hx hb dX5_bitsOf_36 (nn64 (nn_dbl hnn2)) ?_
            refine lv_dstore_n (lv' := [(2, .double ((FP.dmul y 4611686018427387904))), (6, .int (nI i)), (4, .long e2), (0, .double x)]) hx hb dX5_bitsOf_37 rfl hl (by decide) rfl (fun ls hl => ?_)
            refine lv_lload hx hb dX5_bitsOf_38 (lv_at hl 2 rfl) ?_
            refine lv_lconst (v := 1) hx hb dX5_bitsOf_40 (by decide) ?_
            refine lv_lsub hx hb dX5_bitsOf_41 ?_
            refine lv_lstore (lv' := [(4, .long ((e2 - 1))), (2, .double ((FP.dmul y 4611686018427387904))), (6, .int (nI i)), (0, .double x)]) hx hb dX5_bitsOf_42 hl (by decide) rfl (fun ls hl => ?_)
            refine lv_iinc (v := (nI (i + 1))) (lv' := [(6, .int (nI (i + 1))), (4, .long ((e2 - 1))), (2, .double ((FP.dmul y 4611686018427387904))), (0, .double x)]) hx hb dX5_bitsOf_44 hl (k := 2) rfl (nI_1 _) (by decide) rfl (fun ls hl => ?_)
            refine lv_goto (tgt := 18) hx hb dX5_bitsOf_47 (by decide) ?_
            exact ih (i + 1) (e2 - 1) (FP.dmul y 4611686018427387904) _ _ ls (by omega) (nn_dbl hnn2) (by rw [← hres, bsF_n c_4]) hS (lv_sub hl [0, 1, 2, 3] rfl)
    exact L18 1022 0 1023 x _ _ ls rfl hnn rfl hS (lv_sub hl [0, 1, 2, 3] rfl)
  · refine lv_lconst (v := 0) hx hb dX5_bitsOf_6 (by decide) ?_
    exact W.lret (v := 0) hx hb hr (fun t ht hW => ⟨⟨_, (), rfl, (by show _ = _; rw [bcF, if_neg c_1]), trivial⟩, hS.F ht⟩) hS.2.2 dX5_bitsOf_7
