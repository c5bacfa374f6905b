set_option maxHeartbeats 4000000 in
set_option maxRecDepth 100000 in
theorem c_X6_used (l : Launch) (E : wE) (g : Nat → Nat) (th : Int32) (aa sv : Nat → Int32) (sm : Nat) (tx : Nat → Int32) (ln : Nat) (ro : Nat → Int32) (ai : Nat) (wr : Bool) (dg : Int64) (nb : Nat) (va : Nat → Int32) (se : Int32) (rv : Nat → Nat → Int32) (u : Nat) (li : Bool) (K : Nat) (go tn lo : Int32) (L : List Nat) (hu3 : u < 3)  : Met l yX6_used wsX6_used ({ frames := 1, cells := 0, slots := 0, locals := 21 }) (va_Pc [.ref ((g 0)), .int (nI u)] (wS E 6 g (fun H => moR E g th aa sv sm tx ln ro ai wr dg nb va se rv u li K go tn lo L (H)))) (va_Qd (fun (r : UInt64) (_ : Unit) => r = usF go tn lo) (fun _ t => True) wN) 0 0 wN := by
  refine Met.ofW (cc := cX6_used) (maxL := 3) (ret := (some .double)) (by decide) rfl ?_
  intro p e s m args below meth c s₁ B hml hv
  obtain ⟨rfl, ⟨w, hP, hw, hok⟩, hK, hI⟩ := hv
  have hx := B.exec
  have hb := B.bytes
  have hr := B.returns
  have hts := atoms_spec (ws := wsX6_used) B.pre
  have hown : s.vm.findClass RX6 = some m.cls := findClass_of_methodNamed B.named
  have hlocks := B.notSynchronized
  have hS : va_S wN s.heap s.heap [] := va_S.rf
  have hin6 : ∀ w ∈ wsX60, w ∈ wsX6_used := by decide +kernel
  have hl := lv_entry ([.ref ((g 0)), .int (nI u)]) (n := 3) (Nat.le_of_ble_eq_true rfl)
  rw [lg_entry_eq]
  generalize (lg_sl ([.ref ((g 0)), .int (nI u)]) ++ List.replicate (3 - (lg_sl ([.ref ((g 0)), .int (nI u)])).length) Slot.unset).toArray = ls at hl ⊢
  have hl : lv_has ls 3 [(0, .ref ((g 0))), (1, .int (nI u))] := hl
  have hP : wP E 6 g (moF E g th (mdE nb va se (va_up rv u (rvE li K go tn lo L.length w))) aa sv sm tx ln ro ai wr dg) s.heap := hP
  obtain ⟨hWl, hK12, hW12⟩ := id hok
  refine lv_aload_n hx hb dX6_used_0 rfl (lv_at hl 0 rfl) ?_
  refine w_get (C := RX6) (T := TX6) (N := 11) (ci := 6) (v := .ref ((g 1))) hx hb hts hin6 hown hK hP 0 (by decide) rfl rfl 1 (by decide) (hts (.fieldLink RX6 7 "MixedBlocksModel" "s" "[I") (List.mem_of_getElem? (i := 1) rfl)) (fun _ h9 => h9) rfl dX6_used_1 ?_
  refine lv_iload_n hx hb dX6_used_4 rfl (lv_at hl 1 rfl) ?_
  refine lv_iconst (v := 2) hx hb dX6_used_5 (by decide) ?_
  refine va_calli (va_runS (As := [.int (nI u), .int 2]) (rest := [.ref ((g 1))]) ⟨hx, hb, hml, hown, hts⟩ (c_X6_of l u 2) (va_cwS 2 hts gX6_used_X6_of rfl rfl rfl (by decide +kernel) ⟨Nat.le_of_ble_eq_true rfl, Nat.le_of_ble_eq_true rfl⟩) ⟨wU_blind, fun U hU hW => ⟨rfl, trivial⟩⟩ rfl rfl hl.1 rfl (lv_room (Nat.le_of_ble_eq_true rfl)) dX6_used_6 ⟨Nat.zero_le _, Nat.zero_le _⟩) hS (fun q _ h => h.elim) (fun q h => h.elim) (fun r_1 uu t H_1 locs_1 ht hvm hw hB hz1 hk1 hS => ?_)
  have hP := hP.same hk1
  obtain rfl : r_1 = (nI (14 + 30 * u + 2)) := hw
  refine w_iald hx hb hK hP 1 (by decide) rfl (vp_in_nI (by omega) (by decide)) dX6_used_9 ?_
  rw [nI_clamp (by omega), md_g2]
  refine lv_istore_n (lv' := [(2, .int go), (0, .ref ((g 0))), (1, .int (nI u))]) hx hb dX6_used_10 rfl hl (by decide) rfl (fun ls hl => ?_)
  refine lv_iload_n hx hb dX6_used_11 rfl (lv_at hl 0 rfl) ?_
  refine lv_if_ne (tgt := 19) hx hb dX6_used_12 (by decide) (fun c_2 => ?_) (fun c_2 => ?_)
  · refine lv_iload_n hx hb dX6_used_19 rfl (lv_at hl 0 rfl) ?_
    refine lv_aload_n hx hb dX6_used_20 rfl (lv_at hl 1 rfl) ?_
    refine w_get (C := RX6) (T := TX6) (N := 11) (ci := 6) (v := .ref ((g 1))) hx hb hts hin6 hown hK hP 0 (by decide) rfl rfl 1 (by decide) (hts (.fieldLink RX6 7 "MixedBlocksModel" "s" "[I") (List.mem_of_getElem? (i := 1) rfl)) (fun _ h9 => h9) rfl dX6_used_21 ?_
    refine lv_iload_n hx hb dX6_used_24 rfl (lv_at hl 2 rfl) ?_
    refine lv_iconst (v := 3) hx hb dX6_used_25 (by decide) ?_
    refine va_calli (va_runS (As := [.int (nI u), .int 3]) (rest := [.ref ((g 1)), .int go]) ⟨hx, hb, hml, hown, hts⟩ (c_X6_of l u 3) (va_cwS 2 hts gX6_used_X6_of rfl rfl rfl (by decide +kernel) ⟨Nat.le_of_ble_eq_true rfl, Nat.le_of_ble_eq_true rfl⟩) ⟨wU_blind, fun U hU hW => ⟨rfl, trivial⟩⟩ rfl rfl hl.1 rfl (lv_room (Nat.le_of_ble_eq_true rfl)) dX6_used_26 ⟨Nat.zero_le _, Nat.zero_le _⟩) hS (fun q _ h => h.elim) (fun q h => h.elim) (fun r_3 uu t H_3 locs_3 ht hvm hw hB hz1 hk1 hS => ?_)
    have hP := hP.same hk1
    obtain rfl : r_3 = (nI (14 + 30 * u + 3)) := hw
    refine w_iald hx hb hK hP 1 (by decide) rfl (vp_in_nI (by omega) (by decide)) dX6_used_29 ?_
    rw [nI_clamp (by omega), md_g3]
    refine lv_isub hx hb dX6_used_30 ?_
    refine lv_aload_n hx hb dX6_used_31 rfl (lv_at hl 1 rfl) ?_
    refine w_get (C := RX6) (T := TX6) (N := 11) (ci := 6) (v := .ref ((g 1))) hx hb hts hin6 hown hK hP 0 (by decide) rfl rfl 1 (by decide) (hts (.fieldLink RX6 7 "MixedBlocksModel" "s" "[I") (List.mem_of_getElem? (i := 1) rfl)) (fun _ h9 => h9) rfl dX6_used_32 ?_
    refine lv_iload_n hx hb dX6_used_35 rfl (lv_at hl 2 rfl) ?_
    refine lv_iconst (v := 4) hx hb dX6_used_36 (by decide) ?_
    refine va_calli (va_runS (As := [.int (nI u), .int 4]) (rest := [.ref ((g 1)), .int ((go - tn))]) ⟨hx, hb, hml, hown, hts⟩ (c_X6_of l u 4) (va_cwS 2 hts gX6_used_X6_of rfl rfl rfl (by decide +kernel) ⟨Nat.le_of_ble_eq_true rfl, Nat.le_of_ble_eq_true rfl⟩) ⟨wU_blind, fun U hU hW => ⟨rfl, trivial⟩⟩ rfl rfl hl.1 rfl (lv_room (Nat.le_of_ble_eq_true rfl)) dX6_used_37 ⟨Nat.zero_le _, Nat.zero_le _⟩) hS (fun q _ h => h.elim) (fun q h => h.elim) (fun r_4 uu t H_4 locs_4 ht hvm hw hB hz1 hk1 hS => ?_)
    have hP := hP.same hk1
    obtain rfl : r_4 = (nI (14 + 30 * u + 4)) := hw
    refine w_iald hx hb hK hP 1 (by decide) rfl (vp_in_nI (by omega) (by decide)) dX6_used_40 ?_
    rw [nI_clamp (by omega), md_g4]
    refine lv_isub hx hb dX6_used_41 ?_
    refine lv_i2d hx hb dX6_used_42 ?_
    refine lv_iload_n hx hb dX6_used_43 rfl (lv_at hl 0 rfl) ?_
    refine lv_i2d hx hb dX6_used_44 ?_
    refine lv_ddiv hx hb dX6_used_45 (nn64 (nn_sh c_2)) ?_
    exact W.dret (v := (FP.ddiv (FP.i2d ((go - tn) - lo)) (FP.i2d go))) hx hb hr (fun t ht hW => ⟨⟨_, (), rfl, (by show _ = _; rw [usF, if_neg c_2]; rfl), trivial⟩, hS.F ht⟩) hS.2.2 dX6_used_46
  · refine lv_dconst1 hx hb dX6_used_15 ?_
    refine lv_goto (tgt := 46) hx hb dX6_used_16 (by decide) ?_
    exact W.dret (v := FP.dconst1) hx hb hr (fun t ht hW => ⟨⟨_, (), rfl, (by show _ = _; rw [usF, if_pos c_2]), trivial⟩, hS.F ht⟩) hS.2.2 dX6_used_46
set_option maxHeartbeats 4000000 in
set_option maxRecDepth 100000 in
theorem c_X6_bitsOf (l : Launch) (x : UInt64) (hnn : FP.Core.dIsNaN x = false) (hbo : bOK x) : Met l yX6_bitsOf wsX6_bitsOf ({ frames := 0, cells := 0, slots := 0, locals := 0 }) (va_Pc [.double x] (fun _ => True)) (va_Ql (fun (r : Int64) (_ : Unit) => r = bmF x) (fun _ t => True) wN) 0 0 wN := by
  refine Met.ofW (cc := cX6_bitsOf) (maxL := 6) (ret := (some .long)) (by decide) rfl ?_
  intro p e s m args below meth c s₁ B hml hv
  obtain ⟨rfl, -⟩ := hv
  have hx := B.exec
  have hb := B.bytes
  have hr := B.returns
  have hts := atoms_spec (ws := wsX6_bitsOf) B.pre
  have hown : s.vm.findClass RX6 = some m.cls := findClass_of_methodNamed B.named
  have hlocks := B.notSynchronized
  have hS : va_S wN s.heap s.heap [] := va_S.rf
  have hl := lv_entry ([.double x]) (n := 6) (Nat.le_of_ble_eq_true rfl)
  rw [lg_entry_eq]
  generalize (lg_sl ([.double x]) ++ List.replicate (6 - (lg_sl ([.double x])).length) Slot.unset).toArray = ls at hl ⊢
  have hl : lv_has ls 6 [(0, .double x)] := hl
  refine lv_dload_n hx hb dX6_bitsOf_0 rfl (lv_at hl 0 rfl) ?_
  refine lv_dconst0 hx hb dX6_bitsOf_1 ?_
  refine lv_dcmp hx hb dX6_bitsOf_2 ?_
  refine lv_if_ne (tgt := 8) hx hb dX6_bitsOf_3 (by decide) (fun c_1 => ?_) (fun c_1 => ?_)
  · refine lv_ldc2 hx hb hown (hts (.constantLong RX6 174 (1023)) (List.mem_of_getElem? (i := 1) rfl)) dX6_bitsOf_8 ?_
    refine lv_lstore_n (lv' := [(2, .long 1023), (0, .double x)]) hx hb dX6_bitsOf_11 rfl hl (by decide) rfl (fun ls hl => ?_)
    refine lv_dload_n hx hb dX6_bitsOf_12 rfl (lv_at hl 1 rfl) ?_
    refine lv_dstore (lv' := [(4, .double x), (2, .long 1023), (0, .double x)]) hx hb dX6_bitsOf_13 hl (by decide) rfl (fun ls hl => ?_)
    have hend := hbo.resolve_left c_1
    have L15 : ∀ (k : Nat) (e2 : Int64) (y : UInt64) (H : Heap) (locs : List Loc) (ls : Array Slot), FP.Core.dIsNaN y = false → bsF k e2 y = bsF 1022 1023 x → va_S wN s.heap H locs → lv_has ls 6 [(4, .double y), (2, .long e2), (0, .double x)] → W p l e (headSpec wsX6_bitsOf ({ frames := 0, cells := 0, slots := 0, locals := 0 })).room s m ([.double x] : List Value).toArray below meth c H locs 0 0 (MQ below (va_Ql (fun (r : Int64) (_ : Unit) => r = bmF x) (fun _ t => True) wN) ([.double x] : List Value).toArray s 0 0 wN) (F0 m 15 ls []) := by
      intro k
      induction k with
      | zero =>
        intro e2 y H locs ls hnn2 hres hS hl
        refine lv_dload hx hb dX6_bitsOf_15 (lv_at hl 0 rfl) ?_
        refine lv_dconst1 hx hb dX6_bitsOf_17 ?_
        refine lv_dcmp hx hb dX6_bitsOf_18 ?_
        refine lv_if_ge (tgt := 37) hx hb dX6_bitsOf_19 (by decide) (fun c_2 => ?_) (fun c_2 => ?_)
        · refine lv_lload_n hx hb dX6_bitsOf_37 rfl (lv_at hl 1 rfl) ?_
          refine lv_ldc2 hx hb hown (hts (.constantLong RX6 178 (4503599627370496)) (List.mem_of_getElem? (i := 3) rfl)) dX6_bitsOf_38 ?_
          refine lv_lmul hx hb dX6_bitsOf_41 ?_
          refine lv_dload hx hb dX6_bitsOf_42 (lv_at hl 0 rfl) ?_
          refine lv_dconst1 hx hb dX6_bitsOf_44 ?_
          refine lv_dsub hx hb dX6_bitsOf_45 (nn64 (nn_s1 hnn2)) ?_
          refine lv_ldc2d hx hb hown (hts (.constantDouble RX6 180 (4841369599423283200)) (List.mem_of_getElem? (i := 4) rfl)) dX6_bitsOf_46 ?_
          refine lv_dmul hx hb dX6_bitsOf_49 (nn64 (nn_mc (nn_s1 hnn2))) ?_
          refine lv_d2l hx hb dX6_bitsOf_50 ?_
          refine lv_ladd hx hb dX6_bitsOf_51 ?_
          have hq := hres.symm.trans (bsF_y c_2)
          exact W.lret (v := ((e2 * 4503599627370496) + (FP.d2l (FP.dmul (FP.dsub y FP.dconst1) 4841369599423283200)))) hx hb hr (fun t ht hW => ⟨⟨_, (), rfl, (by show _ = _; rw [bmF, if_neg c_1, hq]; rfl), trivial⟩, hS.F ht⟩) hS.2.2 dX6_bitsOf_52
        · exact absurd (by rw [← hres] at hend; exact hend) c_2
      | succ k ihk =>
        intro e2 y H locs ls hnn2 hres hS hl
        refine lv_dload hx hb dX6_bitsOf_15 (lv_at hl 0 rfl) ?_
        refine lv_dconst1 hx hb dX6_bitsOf_17 ?_
        refine lv_dcmp hx hb dX6_bitsOf_18 ?_
        refine lv_if_ge (tgt := 37) hx hb dX6_bitsOf_19 (by decide) (fun c_3 => ?_) (fun c_3 => ?_)
        · refine lv_lload_n hx hb dX6_bitsOf_37 rfl (lv_at hl 1 rfl) ?_
          refine lv_ldc2 hx hb hown (hts (.constantLong RX6 178 (4503599627370496)) (List.mem_of_getElem? (i := 3) rfl)) dX6_bitsOf_38 ?_
          refine lv_lmul hx hb dX6_bitsOf_41 ?_
          refine lv_dload hx hb dX6_bitsOf_42 (lv_at hl 0 rfl) ?_
          refine lv_dconst1 hx hb dX6_bitsOf_44 ?_
          refine lv_dsub hx hb dX6_bitsOf_45 (nn64 (nn_s1 hnn2)) ?_
          refine lv_ldc2d hx hb hown (hts (.constantDouble RX6 180 (4841369599423283200)) (List.mem_of_getElem? (i := 4) rfl)) dX6_bitsOf_46 ?_
          refine lv_dmul hx hb dX6_bitsOf_49 (nn64 (nn_mc (nn_s1 hnn2))) ?_
          refine lv_d2l hx hb dX6_bitsOf_50 ?_
          refine lv_ladd hx hb dX6_bitsOf_51 ?_
          have hq := hres.symm.trans (bsF_y c_3)
          exact W.lret (v := ((e2 * 4503599627370496) + (FP.d2l (FP.dmul (FP.dsub y FP.dconst1) 4841369599423283200)))) hx hb hr (fun t ht hW => ⟨⟨_, (), rfl, (by show _ = _; rw [bmF, if_neg c_1, hq]; rfl), trivial⟩, hS.F ht⟩) hS.2.2 dX6_bitsOf_52
        · refine lv_dload hx hb dX6_bitsOf_22 (lv_at hl 0 rfl) ?_
          refine lv_ldc2d hx hb hown (hts (.constantDouble RX6 176 (4611686018427387904)) (List.mem_of_getElem? (i := 2) rfl)) dX6_bitsOf_24 ?_
          refine lv_dmul hx hb dX6_bitsOf_27 (nn64 (nn_dbl hnn2)) ?_
          refine lv_dstore (lv' := [(4, .double ((FP.dmul y 4611686018427387904))), (2, .long e2), (0, .double x)]) hx hb dX6_bitsOf_28 hl (by decide) rfl (fun ls hl => ?_)
          refine lv_lload_n hx hb dX6_bitsOf_30 rfl (lv_at hl 1 rfl) ?_
          refine lv_lconst (v := 1) hx hb dX6_bitsOf_31 (by decide) ?_
          refine lv_lsub hx hb dX6_bitsOf_32 ?_
          refine lv_lstore_n (lv' := [(2, .long ((e2 - 1))), (4, .double ((FP.dmul y 4611686018427387904))), (0, .double x)]) hx hb dX6_bitsOf_33 rfl hl (by decide) rfl (fun ls hl => ?_)
          refine lv_goto (tgt := 15) hx hb dX6_bitsOf_34 (by decide) ?_
          exact ihk (e2 - 1) (FP.dmul y 4611686018427387904) _ _ ls (nn_dbl hnn2) (by rw [← hres, bsF_n c_3]) hS (lv_sub hl [1, 0, 2] rfl)
    exact L15 1022 1023 x _ _ ls hnn rfl hS (lv_sub hl [0, 1, 2] rfl)
  · refine lv_lconst (v := 0) hx hb dX6_bitsOf_6 (by decide) ?_
    exact W.lret (v := 0) hx hb hr (fun t ht hW => ⟨⟨_, (), rfl, (by show _ = _; rw [bmF, if_pos c_1]), trivial⟩, hS.F ht⟩) hS.2.2 dX6_bitsOf_7
set_option maxHeartbeats 4000000 in
set_option maxRecDepth 100000 in
theorem c_X6_use_ok (l : Launch) (E : wE) (g : Nat → Nat) (th : Int32) (ln : Nat) (tx : Nat → Int32) (nb : Nat) (va : Nat → Int32) (se : Int32) (rc : Nat → MR) (ke : Nat) (hs : Nat → MS) (u : Nat) (hu3 : u < 3) : Met l yX6_use wsX6_use ({ frames := 2, cells := 0, slots := 0, locals := 43 }) (va_Pc [.ref ((g 0)), .int (nI u)] (wS E 6 g (MOB E g th ln tx nb va se rc ke hs))) (va_Qd (fun (r : UInt64) (_ : Unit) => r = usF (rc u).2.2.1 (rc u).2.2.2.1 (rc u).2.2.2.2.1) (fun _ t => MOB E g 0 ln tx nb va se rc ke hs (t.heap)) (wF 6 g)) 0 0 (wF 6 g) := by
  refine Met.ofW (cc := cX6_use) (maxL := 2) (ret := (some .double)) (by decide) rfl ?_
  intro p e s m args below meth c s₁ B hml hv
  obtain ⟨rfl, ⟨sv, ai, wr, dg, ⟨aa, ro, rv, hP, hrv⟩, hsv, hke, hln, hnb2, hnb⟩, hK, hI⟩ := hv
  have hx := B.exec
  have hb := B.bytes
  have hr := B.returns
  have hts := atoms_spec (ws := wsX6_use) B.pre
  have hown : s.vm.findClass RX6 = some m.cls := findClass_of_methodNamed B.named
  have hlocks := B.notSynchronized
  have hS : va_S (wF 6 g) s.heap s.heap [] := va_S.rf
  have hA : ∀ k, k < 6 → (wF 6 g) (g k) := wF_in
  have hl := lv_entry ([.ref ((g 0)), .int (nI u)]) (n := 2) (Nat.le_of_ble_eq_true rfl)
  rw [lg_entry_eq]
  generalize (lg_sl ([.ref ((g 0)), .int (nI u)]) ++ List.replicate (2 - (lg_sl ([.ref ((g 0)), .int (nI u)])).length) Slot.unset).toArray = ls at hl ⊢
  have hl : lv_has ls 2 [(0, .ref ((g 0))), (1, .int (nI u))] := hl
  have hbN := hnb
  have hB1 : inB (nI u) 0 2 = true := inB_t (n := u) (a := 0) (b := 2) rfl rfl rfl (by omega) (by omega) (by omega)
  refine lv_aload_n hx hb dX6_use_0 rfl (lv_at hl 0 rfl) ?_
  refine lv_iload_n hx hb dX6_use_1 rfl (lv_at hl 1 rfl) ?_
  refine va_calli (va_runS (As := [.int (nI u)]) (rest := [.ref ((g 0))]) ⟨hx, hb, hml, hown, hts⟩ (c_X6_isReceiver l (nI u)) (va_cwS 1 hts gX6_use_X6_isReceiver rfl rfl rfl (by decide +kernel) ⟨Nat.le_of_ble_eq_true rfl, Nat.le_of_ble_eq_true rfl⟩) ⟨wU_blind, fun U hU hW => ⟨rfl, trivial⟩⟩ rfl rfl hl.1 rfl (lv_room (Nat.le_of_ble_eq_true rfl)) dX6_use_2 ⟨Nat.zero_le _, Nat.zero_le _⟩) hS (fun q _ h => h.elim) (fun q h => h.elim) (fun r_1 uu t H_1 locs_1 ht hvm hw hB hz1 hk1 hS => ?_)
  have hP := hP.same hk1
  obtain rfl : r_1 = (bI (inB (nI u) 0 2)) := hw
  refine lv_if_eq (tgt := 12) hx hb dX6_use_5 (by decide) (fun c_2 => ?_) (fun c_2 => ?_)
  · rw [hB1] at c_2; exact absurd c_2 (by decide)
  · refine lv_iconst (v := 0) hx hb dX6_use_8 (by decide) ?_
    refine lv_goto (tgt := 13) hx hb dX6_use_9 (by decide) ?_
    refine va_calli (va_runV (As := [.int 0]) (rest := []) ⟨hx, hb, hml, hown, hts⟩ (c_X6_holds l E g (mdE nb va se rv) th aa sv ke tx ln ro ai wr dg 0) (cwV 1 hts gX6_use_X6_holds rfl rfl rfl (by decide +kernel) ⟨Nat.le_of_ble_eq_true rfl, Nat.le_of_ble_eq_true rfl⟩) ⟨wS.blind, (w_recv hK hP 0 (by decide) rfl (ci := 6) rfl), fun U hU hW => wS.go hP hK hI hU hW⟩ rfl rfl hl.1 rfl (lv_room (Nat.le_of_ble_eq_true rfl)) dX6_use_13 ⟨Nat.zero_le _, Nat.zero_le _⟩) hS (fun q _ h => h) (fun q h => h) (fun r_3 uu t H_3 locs_3 ht hvm hw hB hz1 hk1 hS => ?_)
    rw [ht] at hB
    have hP : wP E 6 g (moF E g 0 (mdE nb va se rv) aa sv ke tx ln ro ai wr dg) H_3 := hB
    obtain rfl : r_3 = 1 := hw
    refine lv_if_eq (tgt := 27) hx hb dX6_use_16 (by decide) (fun c_4 => ?_) (fun c_4 => ?_)
    · exact absurd c_4 (by decide)
    · refine lv_aload_n hx hb dX6_use_19 rfl (lv_at hl 0 rfl) ?_
      refine lv_iload_n hx hb dX6_use_20 rfl (lv_at hl 1 rfl) ?_
      have hu3 : u < 3 := by omega
      have hri_5 := hrv u hu3
      obtain ⟨w_5, hv_5, hw_5, hok_5⟩ := hri_5
      rw [show rv = va_up rv u (rvE ((rc u).1) ((rc u).2.1) ((rc u).2.2.1) ((rc u).2.2.2.1) ((rc u).2.2.2.2.1) ((rc u).2.2.2.2.2.length) w_5) from by rw [← hv_5, va_up_id]] at hP
      have hkk_5 := hok_5.2.1
      have hll_5 := hok_5.1
      refine va_calld (va_runV (As := [.int (nI u)]) (rest := []) ⟨hx, hb, hml, hown, hts⟩ (c_X6_used l E g 0 aa sv ke tx ln ro ai wr dg nb va se rv u ((rc u).1) ((rc u).2.1) ((rc u).2.2.1) ((rc u).2.2.2.1) ((rc u).2.2.2.2.1) ((rc u).2.2.2.2.2) hu3 ) (cwV 1 hts gX6_use_X6_used rfl rfl rfl (by decide +kernel) ⟨Nat.le_of_ble_eq_true rfl, Nat.le_of_ble_eq_true rfl⟩) ⟨wS.blind, (w_recv hK hP 0 (by decide) rfl (ci := 6) rfl), fun U hU hW => wS.go ⟨_, hP, hw_5, hok_5⟩ hK hI hU hW⟩ rfl rfl hl.1 rfl (lv_room (Nat.le_of_ble_eq_true rfl)) dX6_use_21 ⟨Nat.zero_le _, Nat.zero_le _⟩) hS (fun q _ h => h.elim) (fun q h => h.elim) (fun r_6 uu t H_6 locs_6 ht hvm hw hB hz1 hk1 hS => ?_)
      have hP := hP.same hk1
      obtain rfl : r_6 = (usF ((rc u).2.2.1) ((rc u).2.2.2.1) ((rc u).2.2.2.2.1)) := hw
      have hrz_7 : ∀ j9, j9 < 3 → rvP (rc j9) ((va_up rv u (rvE ((rc u).1) ((rc u).2.1) ((rc u).2.2.1) ((rc u).2.2.2.1) ((rc u).2.2.2.2.1) ((rc u).2.2.2.2.2.length) w_5)) j9) := rvP_id hrv ⟨w_5, rfl, hw_5, hok_5⟩
      refine lv_goto (tgt := 28) hx hb dX6_use_24 (by decide) ?_
      exact W.dret (v := (usF ((rc u).2.2.1) ((rc u).2.2.2.1) ((rc u).2.2.2.2.1))) hx hb hr (fun t ht hW => ⟨⟨_, (), rfl, rfl, (by show MOB E g 0 ln tx nb va se rc ke hs (t.heap); rw [ht]; exact ⟨sv, _, _, _, ⟨_, _, _, hP, hrz_7⟩, hsv, hke, hln, hnb2, hnb⟩)⟩, hS.F ht⟩) hS.2.2 dX6_use_28
set_option maxHeartbeats 4000000 in
set_option maxRecDepth 100000 in
theorem c_X6_use_no (l : Launch) (E : wE) (g : Nat → Nat) (th : Int32) (ln : Nat) (tx : Nat → Int32) (nb : Nat) (va : Nat → Int32) (se : Int32) (rc : Nat → MR) (ke : Nat) (hs : Nat → MS) (x : Int32) (hB1 : inB x 0 2 = false) : Met l yX6_use wsX6_use ({ frames := 2, cells := 0, slots := 0, locals := 43 }) (va_Pc [.ref ((g 0)), .int x] (wS E 6 g (MOB E g th ln tx nb va se rc ke hs))) (va_Qd (fun (r : UInt64) (_ : Unit) => r = FP.dconst0) (fun _ t => MOB E g 1 ln tx nb va se rc ke hs (t.heap)) (wF 6 g)) 0 0 (wF 6 g) := by
  refine Met.ofW (cc := cX6_use) (maxL := 2) (ret := (some .double)) (by decide) rfl ?_
  intro p e s m args below meth c s₁ B hml hv
  obtain ⟨rfl, ⟨sv, ai, wr, dg, ⟨aa, ro, rv, hP, hrv⟩, hsv, hke, hln, hnb2, hnb⟩, hK, hI⟩ := hv
  have hx := B.exec
  have hb := B.bytes
  have hr := B.returns
  have hts := atoms_spec (ws := wsX6_use) B.pre
  have hown : s.vm.findClass RX6 = some m.cls := findClass_of_methodNamed B.named
  have hlocks := B.notSynchronized
  have hS : va_S (wF 6 g) s.heap s.heap [] := va_S.rf
  have hA : ∀ k, k < 6 → (wF 6 g) (g k) := wF_in
  have hl := lv_entry ([.ref ((g 0)), .int x]) (n := 2) (Nat.le_of_ble_eq_true rfl)
  rw [lg_entry_eq]
  generalize (lg_sl ([.ref ((g 0)), .int x]) ++ List.replicate (2 - (lg_sl ([.ref ((g 0)), .int x])).length) Slot.unset).toArray = ls at hl ⊢
  have hl : lv_has ls 2 [(0, .ref ((g 0))), (1, .int x)] := hl
  have hbN := hnb
  refine lv_aload_n hx hb dX6_use_0 rfl (lv_at hl 0 rfl) ?_
  refine lv_iload_n hx hb dX6_use_1 rfl (lv_at hl 1 rfl) ?_
  refine va_calli (va_runS (As := [.int x]) (rest := [.ref ((g 0))]) ⟨hx, hb, hml, hown, hts⟩ (c_X6_isReceiver l x) (va_cwS 1 hts gX6_use_X6_isReceiver rfl rfl rfl (by decide +kernel) ⟨Nat.le_of_ble_eq_true rfl, Nat.le_of_ble_eq_true rfl⟩) ⟨wU_blind, fun U hU hW => ⟨rfl, trivial⟩⟩ rfl rfl hl.1 rfl (lv_room (Nat.le_of_ble_eq_true rfl)) dX6_use_2 ⟨Nat.zero_le _, Nat.zero_le _⟩) hS (fun q _ h => h.elim) (fun q h => h.elim) (fun r_1 uu t H_1 locs_1 ht hvm hw hB hz1 hk1 hS => ?_)
  have hP := hP.same hk1
  obtain rfl : r_1 = (bI (inB x 0 2)) := hw
  refine lv_if_eq (tgt := 12) hx hb dX6_use_5 (by decide) (fun c_2 => ?_) (fun c_2 => ?_)
  · refine lv_iconst (v := 1) hx hb dX6_use_12 (by decide) ?_
    refine va_calli (va_runV (As := [.int 1]) (rest := []) ⟨hx, hb, hml, hown, hts⟩ (c_X6_holds l E g (mdE nb va se rv) th aa sv ke tx ln ro ai wr dg 1) (cwV 1 hts gX6_use_X6_holds rfl rfl rfl (by decide +kernel) ⟨Nat.le_of_ble_eq_true rfl, Nat.le_of_ble_eq_true rfl⟩) ⟨wS.blind, (w_recv hK hP 0 (by decide) rfl (ci := 6) rfl), fun U hU hW => wS.go hP hK hI hU hW⟩ rfl rfl hl.1 rfl (lv_room (Nat.le_of_ble_eq_true rfl)) dX6_use_13 ⟨Nat.zero_le _, Nat.zero_le _⟩) hS (fun q _ h => h) (fun q h => h) (fun r_3 uu t H_3 locs_3 ht hvm hw hB hz1 hk1 hS => ?_)
    rw [ht] at hB
    have hP : wP E 6 g (moF E g 1 (mdE nb va se rv) aa sv ke tx ln ro ai wr dg) H_3 := hB
    obtain rfl : r_3 = 0 := hw
    refine lv_if_eq (tgt := 27) hx hb dX6_use_16 (by decide) (fun c_4 => ?_) (fun c_4 => ?_)
    · refine lv_dconst0 hx hb dX6_use_27 ?_
      exact W.dret (v := FP.dconst0) hx hb hr (fun t ht hW => ⟨⟨_, (), rfl, rfl, (by show MOB E g 1 ln tx nb va se rc ke hs (t.heap); rw [ht]; exact ⟨sv, _, _, _, ⟨_, _, _, hP, hrv⟩, hsv, hke, hln, hnb2, hnb⟩)⟩, hS.F ht⟩) hS.2.2 dX6_use_28
    · exact absurd rfl c_4
  · rw [hB1] at c_2; exact absurd rfl c_2
set_option maxHeartbeats 4000000 in
set_option maxRecDepth 100000 in
theorem c_X6_digestReceiver (l : Launch) (E : wE) (g : Nat → Nat) (th : Int32) (sv : Nat → Int32) (sm : Nat) (tx : Nat → Int32) (ln : Nat) (ai : Nat) (wr : Bool) (dg : Int64) (nb : Nat) (va : Nat → Int32) (se : Int32) (rc : Nat → MR) (u : Nat) (hu3 : u < 3) (hnb2 : 2 ≤ nb) (hnb : nb ≤ 12) (hbo : bOK (usF (rc u).2.2.1 (rc u).2.2.2.1 (rc u).2.2.2.2.1)) : Met l yX6_digestReceiver wsX6_digestReceiver ({ frames := 6, cells := 0, slots := 0, locals := 141 }) (va_Pc [.ref ((g 0)), .int (nI u)] (wS E 6 g (moZ E g th sv sm tx ln ai wr dg nb va se rc))) (va_Qv (fun (_ : Unit) => True) (fun _ t => moZ E g th sv sm tx ln ai wr (drM nb va (rc u) dg) nb va se rc (t.heap)) (wF 6 g)) 0 0 (wF 6 g) := by
  refine Met.ofW (cc := cX6_digestReceiver) (maxL := 3) (ret := none) (by decide) rfl ?_
  intro p e s m args below meth c s₁ B hml hv
  obtain ⟨rfl, ⟨aa, ro, rv, hP, hrv⟩, hK, hI⟩ := hv
  have hx := B.exec
  have hb := B.bytes
  have hr := B.returns
  have hts := atoms_spec (ws := wsX6_digestReceiver) B.pre
  have hown : s.vm.findClass RX6 = some m.cls := findClass_of_methodNamed B.named
  have hlocks := B.notSynchronized
  have hS : va_S (wF 6 g) s.heap s.heap [] := va_S.rf
  have hin6 : ∀ w ∈ wsX60, w ∈ wsX6_digestReceiver := by decide +kernel
  have hA : ∀ k, k < 6 → (wF 6 g) (g k) := wF_in
  have hl := lv_entry ([.ref ((g 0)), .int (nI u)]) (n := 3) (Nat.le_of_ble_eq_true rfl)
  rw [lg_entry_eq]
  generalize (lg_sl ([.ref ((g 0)), .int (nI u)]) ++ List.replicate (3 - (lg_sl ([.ref ((g 0)), .int (nI u)])).length) Slot.unset).toArray = ls at hl ⊢
  have hl : lv_has ls 3 [(0, .ref ((g 0))), (1, .int (nI u))] := hl
  refine lv_iconst (v := 0) hx hb dX6_digestReceiver_0 (by decide) ?_
  refine lv_istore_n (lv' := [(2, .int 0), (0, .ref ((g 0))), (1, .int (nI u))]) hx hb dX6_digestReceiver_1 rfl hl (by decide) rfl (fun ls hl => ?_)
  have L2 : ∀ (k : Nat) (j : Nat) (dv2 : Int64) (aa2 ro2 : Nat → Int32) (rv2 : Nat → Nat → Int32) (H : Heap) (locs : List Loc) (ls : Array Slot), j + k = 9 → hsN (fun j => numM nb (rc u) j) k j dv2 = drA nb (rc u) dg → (∀ j9, j9 < 3 → rvP (rc j9) (rv2 j9)) → wP E 6 g (moF E g th (mdE nb va se rv2) aa2 sv sm tx ln ro2 ai wr dv2) H → va_S (wF 6 g) s.heap H locs → lv_has ls 3 [(2, .int (nI j)), (0, .ref ((g 0))), (1, .int (nI u))] → W p l e (headSpec wsX6_digestReceiver ({ frames := 6, cells := 0, slots := 0, locals := 141 })).room s m ([.ref ((g 0)), .int (nI u)] : List Value).toArray below meth c H locs 0 0 (MQ below (va_Qv (fun (_ : Unit) => True) (fun _ t => moZ E g th sv sm tx ln ai wr (drM nb va (rc u) dg) nb va se rc (t.heap)) (wF 6 g)) ([.ref ((g 0)), .int (nI u)] : List Value).toArray s 0 0 (wF 6 g)) (F0 m 2 ls []) := by
    intro k
    induction k with
    | zero =>
      intro j dv2 aa2 ro2 rv2 H locs ls hi hres hrv2 hP hS hl
      refine lv_iload_n hx hb dX6_digestReceiver_2 rfl (lv_at hl 0 rfl) ?_
      refine lv_bipush (v := 9) hx hb dX6_digestReceiver_3 (by decide) ?_
      refine lv_icmp_ge (tgt := 25) hx hb dX6_digestReceiver_5 (by decide) (fun c_1 => ?_) (fun c_1 => ?_)
      · have n_1 : 9 ≤ j := (nI_leI (a := 9) (b := j) (by omega) (by omega)).mp c_1
        refine lv_iconst (v := 0) hx hb dX6_digestReceiver_25 (by decide) ?_
        refine lv_istore_n (lv' := [(2, .int 0), (0, .ref ((g 0))), (1, .int (nI u))]) hx hb dX6_digestReceiver_26 rfl hl (by decide) rfl (fun ls hl => ?_)
        have hres2 : dv2 = drA nb (rc u) dg := hres
        have L27 : ∀ (k2 : Nat) (j2 : Nat) (dv3 : Int64) (aa3 ro3 : Nat → Int32) (rv3 : Nat → Nat → Int32) (H : Heap) (locs : List Loc) (ls : Array Slot), j2 + k2 = nb → hsN (fun b => knM va (rc u).2.1 b) k2 j2 dv3 = drB nb va (rc u) dg → (∀ j9, j9 < 3 → rvP (rc j9) (rv3 j9)) → wP E 6 g (moF E g th (mdE nb va se rv3) aa3 sv sm tx ln ro3 ai wr dv3) H → va_S (wF 6 g) s.heap H locs → lv_has ls 3 [(2, .int (nI j2)), (0, .ref ((g 0))), (1, .int (nI u))] → W p l e (headSpec wsX6_digestReceiver ({ frames := 6, cells := 0, slots := 0, locals := 141 })).room s m ([.ref ((g 0)), .int (nI u)] : List Value).toArray below meth c H locs 0 0 (MQ below (va_Qv (fun (_ : Unit) => True) (fun _ t => moZ E g th sv sm tx ln ai wr (drM nb va (rc u) dg) nb va se rc (t.heap)) (wF 6 g)) ([.ref ((g 0)), .int (nI u)] : List Value).toArray s 0 0 (wF 6 g)) (F0 m 27 ls []) := by
          intro k2
          induction k2 with
          | zero =>
            intro j2 dv3 aa3 ro3 rv3 H locs ls hi2 hres3 hrv3 hP hS hl
            refine lv_iload_n hx hb dX6_digestReceiver_27 rfl (lv_at hl 0 rfl) ?_
            refine lv_aload_n hx hb dX6_digestReceiver_28 rfl (lv_at hl 1 rfl) ?_
            refine w_get (C := RX6) (T := TX6) (N := 11) (ci := 6) (v := .ref ((g 1))) hx hb hts hin6 hown hK hP 0 (by decide) rfl rfl 1 (by decide) (hts (.fieldLink RX6 7 "MixedBlocksModel" "s" "[I") (List.mem_of_getElem? (i := 1) rfl)) (fun _ h9 => h9) rfl dX6_digestReceiver_29 ?_
            refine lv_iconst (v := 0) hx hb dX6_digestReceiver_32 (by decide) ?_
            refine w_iald hx hb hK hP 1 (by decide) rfl (vp_in_nI (n := 0) (by decide) (by decide)) dX6_digestReceiver_33 ?_
            rw [mdE_0]
            refine lv_icmp_ge (tgt := 54) hx hb dX6_digestReceiver_34 (by decide) (fun c_2 => ?_) (fun c_2 => ?_)
            · have n_2 : nb ≤ j2 := (nI_leI (a := nb) (b := j2) (by omega) (by omega)).mp c_2
              refine lv_iconst (v := 0) hx hb dX6_digestReceiver_54 (by decide) ?_
              refine lv_istore_n (lv' := [(2, .int 0), (0, .ref ((g 0))), (1, .int (nI u))]) hx hb dX6_digestReceiver_55 rfl hl (by decide) rfl (fun ls hl => ?_)
              have hres5 : dv3 = drB nb va (rc u) dg := hres3
              have hlw24 : (rc u).2.2.2.2.2.length ≤ 24 := by obtain ⟨_, _, _, hk9⟩ := hrv3 u hu3; exact hk9.1
              have L56 : ∀ (k3 : Nat) (j3 : Nat) (dv4 : Int64) (aa4 ro4 : Nat → Int32) (rv4 : Nat → Nat → Int32) (H : Heap) (locs : List Loc) (ls : Array Slot), j3 + k3 = (rc u).2.2.2.2.2.length → hsV nb va (rc u).2.2.2.2.2 k3 j3 dv4 = drC nb va (rc u) dg → (∀ j9, j9 < 3 → rvP (rc j9) (rv4 j9)) → wP E 6 g (moF E g th (mdE nb va se rv4) aa4 sv sm tx ln ro4 ai wr dv4) H → va_S (wF 6 g) s.heap H locs → lv_has ls 3 [(2, .int (nI j3)), (0, .ref ((g 0))), (1, .int (nI u))] → W p l e (headSpec wsX6_digestReceiver ({ frames := 6, cells := 0, slots := 0, locals := 141 })).room s m ([.ref ((g 0)), .int (nI u)] : List Value).toArray below meth c H locs 0 0 (MQ below (va_Qv (fun (_ : Unit) => True) (fun _ t => moZ E g th sv sm tx ln ai wr (drM nb va (rc u) dg) nb va se rc (t.heap)) (wF 6 g)) ([.ref ((g 0)), .int (nI u)] : List Value).toArray s 0 0 (wF 6 g)) (F0 m 56 ls []) := by
                intro k3
                induction k3 with
                | zero =>
                  intro j3 dv4 aa4 ro4 rv4 H locs ls hi3 hres6 hrv4 hP hS hl
                  have hu3 : u < 3 := by omega
                  have hri_3 := hrv4 u hu3
                  obtain ⟨w_3, hv_3, hw_3, hok_3⟩ := hri_3
                  rw [show rv4 = va_up rv4 u (rvE ((rc u).1) ((rc u).2.1) ((rc u).2.2.1) ((rc u).2.2.2.1) ((rc u).2.2.2.2.1) ((rc u).2.2.2.2.2.length) w_3) from by rw [← hv_3, va_up_id]] at hP
                  have hkk_3 := hok_3.2.1
                  have hll_3 := hok_3.1
                  refine lv_iload_n hx hb dX6_digestReceiver_56 rfl (lv_at hl 0 rfl) ?_
                  refine lv_aload_n hx hb dX6_digestReceiver_57 rfl (lv_at hl 1 rfl) ?_
                  refine w_get (C := RX6) (T := TX6) (N := 11) (ci := 6) (v := .ref ((g 1))) hx hb hts hin6 hown hK hP 0 (by decide) rfl rfl 1 (by decide) (hts (.fieldLink RX6 7 "MixedBlocksModel" "s" "[I") (List.mem_of_getElem? (i := 1) rfl)) (fun _ h9 => h9) rfl dX6_digestReceiver_58 ?_
                  refine lv_iload_n hx hb dX6_digestReceiver_61 rfl (lv_at hl 2 rfl) ?_
                  refine lv_iconst (v := 5) hx hb dX6_digestReceiver_62 (by decide) ?_
                  refine va_calli (va_runS (As := [.int (nI u), .int 5]) (rest := [.ref ((g 1)), .int (nI j3)]) ⟨hx, hb, hml, hown, hts⟩ (c_X6_of l u 5) (va_cwS 2 hts gX6_digestReceiver_X6_of rfl rfl rfl (by decide +kernel) ⟨Nat.le_of_ble_eq_true rfl, Nat.le_of_ble_eq_true rfl⟩) ⟨wU_blind, fun U hU hW => ⟨rfl, trivial⟩⟩ rfl rfl hl.1 rfl (lv_room (Nat.le_of_ble_eq_true rfl)) dX6_digestReceiver_63 ⟨Nat.zero_le _, Nat.zero_le _⟩) hS (fun q _ h => h.elim) (fun q h => h.elim) (fun r_4 uu t H_4 locs_4 ht hvm hw hB hz1 hk1 hS => ?_)
                  have hP := hP.same hk1
                  obtain rfl : r_4 = (nI (14 + 30 * u + 5)) := hw
                  refine w_iald hx hb hK hP 1 (by decide) rfl (vp_in_nI (by omega) (by decide)) dX6_digestReceiver_66 ?_
                  rw [nI_clamp (by omega), md_g5]
                  refine lv_icmp_ge (tgt := 100) hx hb dX6_digestReceiver_67 (by decide) (fun c_5 => ?_) (fun c_5 => ?_)
                  · have n_5 : ((rc u).2.2.2.2.2.length) ≤ j3 := (nI_leI (a := ((rc u).2.2.2.2.2.length)) (b := j3) (by omega) (by omega)).mp c_5
                    have hrz_6 : ∀ j9, j9 < 3 → rvP (rc j9) ((va_up rv4 u (rvE ((rc u).1) ((rc u).2.1) ((rc u).2.2.1) ((rc u).2.2.2.1) ((rc u).2.2.2.2.1) ((rc u).2.2.2.2.2.length) w_3)) j9) := rvP_id hrv4 ⟨w_3, rfl, hw_3, hok_3⟩
                    have hres8 : dv4 = drC nb va (rc u) dg := hres6
                    rw [hres8] at hP
                    refine lv_aload_n hx hb dX6_digestReceiver_100 rfl (lv_at hl 1 rfl) ?_
                    refine lv_aload_n hx hb dX6_digestReceiver_101 rfl (lv_at hl 1 rfl) ?_
                    refine lv_iload_n hx hb dX6_digestReceiver_102 rfl (lv_at hl 2 rfl) ?_
                    refine lv_bipush (v := 100) hx hb dX6_digestReceiver_103 (by decide) ?_
                    refine lv_iconst (v := 0) hx hb dX6_digestReceiver_105 (by decide) ?_
                    refine va_calli (va_runV (As := [.int (nI u), .int 100, .int 0]) (rest := [.ref ((g 0))]) ⟨hx, hb, hml, hown, hts⟩ (c_X6_got l E g th sv sm tx ln ai wr (drC nb va (rc u) dg) nb va se rc u (by omega) 100 0 (by omega) (by omega) hnb2 hnb) (cwV 3 hts gX6_digestReceiver_X6_got rfl rfl rfl (by decide +kernel) ⟨Nat.le_of_ble_eq_true rfl, Nat.le_of_ble_eq_true rfl⟩) ⟨wS.blind, (w_recv hK hP 0 (by decide) rfl (ci := 6) rfl), fun U hU hW => wS.go ⟨_, _, _, hP, hrz_6⟩ hK hI hU hW⟩ rfl rfl hl.1 rfl (lv_room (Nat.le_of_ble_eq_true rfl)) dX6_digestReceiver_106 ⟨Nat.zero_le _, Nat.zero_le _⟩) hS (fun q _ h => h) (fun q h => h) (fun r_7 uu t H_7 locs_7 ht hvm hw hB hz1 hk1 hS => ?_)
                    rw [ht] at hB
                    obtain ⟨aa_7, ro_7, rv_7, hP, hrv_7⟩ := hB
                    have hP : wP E 6 g (moF E g th (mdE nb va se rv_7) aa_7 sv sm tx ln ro_7 ai wr (drC nb va (rc u) dg)) H_7 := hP
                    obtain rfl : r_7 = (gtv (mskM nb 100) (rc u)) := hw
                    refine lv_i2l (v := (gtv (mskM nb 100) (rc u)).toInt64) hx hb dX6_digestReceiver_109 rfl ?_
                    refine va_callv (va_runV (As := [.long ((gtv (mskM nb 100) (rc u)).toInt64)]) (rest := []) ⟨hx, hb, hml, hown, hts⟩ (c_X6_digestOne l E g (mdE nb va se rv_7) th aa_7 sv sm tx ln ro_7 ai wr (drC nb va (rc u) dg) ((gtv (mskM nb 100) (rc u)).toInt64)) (cwV 1 hts gX6_digestReceiver_X6_digestOne rfl rfl rfl (by decide +kernel) ⟨Nat.le_of_ble_eq_true rfl, Nat.le_of_ble_eq_true rfl⟩) ⟨wS.blind, (w_recv hK hP 0 (by decide) rfl (ci := 6) rfl), fun U hU hW => wS.go hP hK hI hU hW⟩ rfl rfl hl.1 rfl (lv_room (Nat.le_of_ble_eq_true rfl)) dX6_digestReceiver_110 ⟨Nat.zero_le _, Nat.zero_le _⟩) hS (fun q _ h => h) (fun q h => h) (fun uu t H_8 locs_8 ht hvm hw hB hz1 hk1 hS => ?_)
                    rw [ht] at hB
                    have hP : wP E 6 g (moF E g th (mdE nb va se rv_7) aa_7 sv sm tx ln ro_7 ai wr (31 * (drC nb va (rc u) dg) + ((gtv (mskM nb 100) (rc u)).toInt64))) H_8 := hB
                    refine lv_aload_n hx hb dX6_digestReceiver_113 rfl (lv_at hl 1 rfl) ?_
                    refine lv_aload_n hx hb dX6_digestReceiver_114 rfl (lv_at hl 1 rfl) ?_
                    refine lv_iload_n hx hb dX6_digestReceiver_115 rfl (lv_at hl 2 rfl) ?_
                    refine lv_bipush (v := 100) hx hb dX6_digestReceiver_116 (by decide) ?_
                    refine lv_iconst (v := 1) hx hb dX6_digestReceiver_118 (by decide) ?_
                    refine va_calli (va_runV (As := [.int (nI u), .int 100, .int 1]) (rest := [.ref ((g 0))]) ⟨hx, hb, hml, hown, hts⟩ (c_X6_got l E g th sv sm tx ln ai wr (31 * (drC nb va (rc u) dg) + ((gtv (mskM nb 100) (rc u)).toInt64)) nb va se rc u (by omega) 100 1 (by omega) (by omega) hnb2 hnb) (cwV 3 hts gX6_digestReceiver_X6_got rfl rfl rfl (by decide +kernel) ⟨Nat.le_of_ble_eq_true rfl, Nat.le_of_ble_eq_true rfl⟩) ⟨wS.blind, (w_recv hK hP 0 (by decide) rfl (ci := 6) rfl), fun U hU hW => wS.go ⟨_, _, _, hP, hrv_7⟩ hK hI hU hW⟩ rfl rfl hl.1 rfl (lv_room (Nat.le_of_ble_eq_true rfl)) dX6_digestReceiver_119 ⟨Nat.zero_le _, Nat.zero_le _⟩) hS (fun q _ h => h) (fun q h => h) (fun r_9 uu t H_9 locs_9 ht hvm hw hB hz1 hk1 hS => ?_)
                    rw [ht] at hB
                    obtain ⟨aa_9, ro_9, rv_9, hP, hrv_9⟩ := hB
                    have hP : wP E 6 g (moF E g th (mdE nb va se rv_9) aa_9 sv sm tx ln ro_9 ai wr (31 * (drC nb va (rc u) dg) + ((gtv (mskM nb 100) (rc u)).toInt64))) H_9 := hP
                    obtain rfl : r_9 = (rnkM (getM (mskM nb 100) (rc u).2)) := hw
                    refine lv_i2l (v := (rnkM (getM (mskM nb 100) (rc u).2)).toInt64) hx hb dX6_digestReceiver_122 rfl ?_
                    refine va_callv (va_runV (As := [.long ((rnkM (getM (mskM nb 100) (rc u).2)).toInt64)]) (rest := []) ⟨hx, hb, hml, hown, hts⟩ (c_X6_digestOne l E g (mdE nb va se rv_9) th aa_9 sv sm tx ln ro_9 ai wr (31 * (drC nb va (rc u) dg) + ((gtv (mskM nb 100) (rc u)).toInt64)) ((rnkM (getM (mskM nb 100) (rc u).2)).toInt64)) (cwV 1 hts gX6_digestReceiver_X6_digestOne rfl rfl rfl (by decide +kernel) ⟨Nat.le_of_ble_eq_true rfl, Nat.le_of_ble_eq_true rfl⟩) ⟨wS.blind, (w_recv hK hP 0 (by decide) rfl (ci := 6) rfl), fun U hU hW => wS.go hP hK hI hU hW⟩ rfl rfl hl.1 rfl (lv_room (Nat.le_of_ble_eq_true rfl)) dX6_digestReceiver_123 ⟨Nat.zero_le _, Nat.zero_le _⟩) hS (fun q _ h => h) (fun q h => h) (fun uu t H_10 locs_10 ht hvm hw hB hz1 hk1 hS => ?_)
                    rw [ht] at hB
                    have hP : wP E 6 g (moF E g th (mdE nb va se rv_9) aa_9 sv sm tx ln ro_9 ai wr (31 * (31 * (drC nb va (rc u) dg) + ((gtv (mskM nb 100) (rc u)).toInt64)) + ((rnkM (getM (mskM nb 100) (rc u).2)).toInt64))) H_10 := hB
                    refine lv_aload_n hx hb dX6_digestReceiver_126 rfl (lv_at hl 1 rfl) ?_
                    refine lv_aload_n hx hb dX6_digestReceiver_127 rfl (lv_at hl 1 rfl) ?_
                    refine lv_iload_n hx hb dX6_digestReceiver_128 rfl (lv_at hl 2 rfl) ?_
                    refine lv_iconst (v := 0) hx hb dX6_digestReceiver_129 (by decide) ?_
                    refine va_calli (va_runV (As := [.int (nI u), .int 0]) (rest := [.ref ((g 0))]) ⟨hx, hb, hml, hown, hts⟩ (c_X6_helping l E g th sv sm tx ln ai wr (31 * (31 * (drC nb va (rc u) dg) + ((gtv (mskM nb 100) (rc u)).toInt64)) + ((rnkM (getM (mskM nb 100) (rc u).2)).toInt64)) nb va se rc u (by omega) 0 (by omega) hnb2 hnb) (cwV 2 hts gX6_digestReceiver_X6_helping rfl rfl rfl (by decide +kernel) ⟨Nat.le_of_ble_eq_true rfl, Nat.le_of_ble_eq_true rfl⟩) ⟨wS.blind, (w_recv hK hP 0 (by decide) rfl (ci := 6) rfl), fun U hU hW => wS.go ⟨_, _, _, hP, hrv_9⟩ hK hI hU hW⟩ rfl rfl hl.1 rfl (lv_room (Nat.le_of_ble_eq_true rfl)) dX6_digestReceiver_130 ⟨Nat.zero_le _, Nat.zero_le _⟩) hS (fun q _ h => h) (fun q h => h) (fun r_11 uu t H_11 locs_11 ht hvm hw hB hz1 hk1 hS => ?_)
                    rw [ht] at hB
                    obtain ⟨aa_11, ro_11, rv_11, hP, hrv_11⟩ := hB
                    have hP : wP E 6 g (moF E g th (mdE nb va se rv_11) aa_11 sv sm tx ln ro_11 ai wr (31 * (31 * (drC nb va (rc u) dg) + ((gtv (mskM nb 100) (rc u)).toInt64)) + ((rnkM (getM (mskM nb 100) (rc u).2)).toInt64))) H_11 := hP
                    obtain rfl : r_11 = (nhS (hpM nb (rc u)) (nhN 0) 0) := hw
                    refine lv_i2l (v := (nhS (hpM nb (rc u)) (nhN 0) 0).toInt64) hx hb dX6_digestReceiver_133 rfl ?_
                    refine va_callv (va_runV (As := [.long ((nhS (hpM nb (rc u)) (nhN 0) 0).toInt64)]) (rest := []) ⟨hx, hb, hml, hown, hts⟩ (c_X6_digestOne l E g (mdE nb va se rv_11) th aa_11 sv sm tx ln ro_11 ai wr (31 * (31 * (drC nb va (rc u) dg) + ((gtv (mskM nb 100) (rc u)).toInt64)) + ((rnkM (getM (mskM nb 100) (rc u).2)).toInt64)) ((nhS (hpM nb (rc u)) (nhN 0) 0).toInt64)) (cwV 1 hts gX6_digestReceiver_X6_digestOne rfl rfl rfl (by decide +kernel) ⟨Nat.le_of_ble_eq_true rfl, Nat.le_of_ble_eq_true rfl⟩) ⟨wS.blind, (w_recv hK hP 0 (by decide) rfl (ci := 6) rfl), fun U hU hW => wS.go hP hK hI hU hW⟩ rfl rfl hl.1 rfl (lv_room (Nat.le_of_ble_eq_true rfl)) dX6_digestReceiver_134 ⟨Nat.zero_le _, Nat.zero_le _⟩) hS (fun q _ h => h) (fun q h => h) (fun uu t H_12 locs_12 ht hvm hw hB hz1 hk1 hS => ?_)
                    rw [ht] at hB
                    have hP : wP E 6 g (moF E g th (mdE nb va se rv_11) aa_11 sv sm tx ln ro_11 ai wr (31 * (31 * (31 * (drC nb va (rc u) dg) + ((gtv (mskM nb 100) (rc u)).toInt64)) + ((rnkM (getM (mskM nb 100) (rc u).2)).toInt64)) + ((nhS (hpM nb (rc u)) (nhN 0) 0).toInt64))) H_12 := hB
                    refine lv_aload_n hx hb dX6_digestReceiver_137 rfl (lv_at hl 1 rfl) ?_
                    refine lv_aload_n hx hb dX6_digestReceiver_138 rfl (lv_at hl 1 rfl) ?_
                    refine lv_iload_n hx hb dX6_digestReceiver_139 rfl (lv_at hl 2 rfl) ?_
                    refine lv_iconst (v := 5) hx hb dX6_digestReceiver_140 (by decide) ?_
                    refine lv_iconst (v := 0) hx hb dX6_digestReceiver_141 (by decide) ?_
                    refine va_calli (va_runV (As := [.int (nI u), .int 5, .int 0]) (rest := [.ref ((g 0))]) ⟨hx, hb, hml, hown, hts⟩ (c_X6_needed l E g th sv sm tx ln ai wr (31 * (31 * (31 * (drC nb va (rc u) dg) + ((gtv (mskM nb 100) (rc u)).toInt64)) + ((rnkM (getM (mskM nb 100) (rc u).2)).toInt64)) + ((nhS (hpM nb (rc u)) (nhN 0) 0).toInt64)) nb va se rc u (by omega) 5 (by omega) false hnb2 hnb) (cwV 3 hts gX6_digestReceiver_X6_needed rfl rfl rfl (by decide +kernel) ⟨Nat.le_of_ble_eq_true rfl, Nat.le_of_ble_eq_true rfl⟩) ⟨wS.blind, (w_recv hK hP 0 (by decide) rfl (ci := 6) rfl), fun U hU hW => wS.go ⟨_, _, _, hP, hrv_11⟩ hK hI hU hW⟩ rfl rfl hl.1 rfl (lv_room (Nat.le_of_ble_eq_true rfl)) dX6_digestReceiver_142 ⟨Nat.zero_le _, Nat.zero_le _⟩) hS (fun q _ h => h) (fun q h => h) (fun r_13 uu t H_13 locs_13 ht hvm hw hB hz1 hk1 hS => ?_)
                    rw [ht] at hB
                    obtain ⟨aa_13, ro_13, rv_13, hP, hrv_13⟩ := hB
                    have hP : wP E 6 g (moF E g th (mdE nb va se rv_13) aa_13 sv sm tx ln ro_13 ai wr (31 * (31 * (31 * (drC nb va (rc u) dg) + ((gtv (mskM nb 100) (rc u)).toInt64)) + ((rnkM (getM (mskM nb 100) (rc u).2)).toInt64)) + ((nhS (hpM nb (rc u)) (nhN 0) 0).toInt64))) H_13 := hP
                    obtain rfl : r_13 = (ndM nb 5 false 100 0 (rc u).2) := hw
                    refine lv_i2l (v := (ndM nb 5 false 100 0 (rc u).2).toInt64) hx hb dX6_digestReceiver_145 rfl ?_
                    refine va_callv (va_runV (As := [.long ((ndM nb 5 false 100 0 (rc u).2).toInt64)]) (rest := []) ⟨hx, hb, hml, hown, hts⟩ (c_X6_digestOne l E g (mdE nb va se rv_13) th aa_13 sv sm tx ln ro_13 ai wr (31 * (31 * (31 * (drC nb va (rc u) dg) + ((gtv (mskM nb 100) (rc u)).toInt64)) + ((rnkM (getM (mskM nb 100) (rc u).2)).toInt64)) + ((nhS (hpM nb (rc u)) (nhN 0) 0).toInt64)) ((ndM nb 5 false 100 0 (rc u).2).toInt64)) (cwV 1 hts gX6_digestReceiver_X6_digestOne rfl rfl rfl (by decide +kernel) ⟨Nat.le_of_ble_eq_true rfl, Nat.le_of_ble_eq_true rfl⟩) ⟨wS.blind, (w_recv hK hP 0 (by decide) rfl (ci := 6) rfl), fun U hU hW => wS.go hP hK hI hU hW⟩ rfl rfl hl.1 rfl (lv_room (Nat.le_of_ble_eq_true rfl)) dX6_digestReceiver_146 ⟨Nat.zero_le _, Nat.zero_le _⟩) hS (fun q _ h => h) (fun q h => h) (fun uu t H_14 locs_14 ht hvm hw hB hz1 hk1 hS => ?_)
                    rw [ht] at hB
                    have hP : wP E 6 g (moF E g th (mdE nb va se rv_13) aa_13 sv sm tx ln ro_13 ai wr (31 * (31 * (31 * (31 * (drC nb va (rc u) dg) + ((gtv (mskM nb 100) (rc u)).toInt64)) + ((rnkM (getM (mskM nb 100) (rc u).2)).toInt64)) + ((nhS (hpM nb (rc u)) (nhN 0) 0).toInt64)) + ((ndM nb 5 false 100 0 (rc u).2).toInt64))) H_14 := hB
                    refine lv_aload_n hx hb dX6_digestReceiver_149 rfl (lv_at hl 1 rfl) ?_
                    refine lv_aload_n hx hb dX6_digestReceiver_150 rfl (lv_at hl 1 rfl) ?_
                    refine lv_iload_n hx hb dX6_digestReceiver_151 rfl (lv_at hl 2 rfl) ?_
                    refine lv_iconst (v := 5) hx hb dX6_digestReceiver_152 (by decide) ?_
                    refine lv_iconst (v := 1) hx hb dX6_digestReceiver_153 (by decide) ?_
                    refine va_calli (va_runV (As := [.int (nI u), .int 5, .int 1]) (rest := [.ref ((g 0))]) ⟨hx, hb, hml, hown, hts⟩ (c_X6_needed l E g th sv sm tx ln ai wr (31 * (31 * (31 * (31 * (drC nb va (rc u) dg) + ((gtv (mskM nb 100) (rc u)).toInt64)) + ((rnkM (getM (mskM nb 100) (rc u).2)).toInt64)) + ((nhS (hpM nb (rc u)) (nhN 0) 0).toInt64)) + ((ndM nb 5 false 100 0 (rc u).2).toInt64)) nb va se rc u (by omega) 5 (by omega) true hnb2 hnb) (cwV 3 hts gX6_digestReceiver_X6_needed rfl rfl rfl (by decide +kernel) ⟨Nat.le_of_ble_eq_true rfl, Nat.le_of_ble_eq_true rfl⟩) ⟨wS.blind, (w_recv hK hP 0 (by decide) rfl (ci := 6) rfl), fun U hU hW => wS.go ⟨_, _, _, hP, hrv_13⟩ hK hI hU hW⟩ rfl rfl hl.1 rfl (lv_room (Nat.le_of_ble_eq_true rfl)) dX6_digestReceiver_154 ⟨Nat.zero_le _, Nat.zero_le _⟩) hS (fun q _ h => h) (fun q h => h) (fun r_15 uu t H_15 locs_15 ht hvm hw hB hz1 hk1 hS => ?_)
                    rw [ht] at hB
                    obtain ⟨aa_15, ro_15, rv_15, hP, hrv_15⟩ := hB
                    have hP : wP E 6 g (moF E g th (mdE nb va se rv_15) aa_15 sv sm tx ln ro_15 ai wr (31 * (31 * (31 * (31 * (drC nb va (rc u) dg) + ((gtv (mskM nb 100) (rc u)).toInt64)) + ((rnkM (getM (mskM nb 100) (rc u).2)).toInt64)) + ((nhS (hpM nb (rc u)) (nhN 0) 0).toInt64)) + ((ndM nb 5 false 100 0 (rc u).2).toInt64))) H_15 := hP
                    obtain rfl : r_15 = (ndM nb 5 true 100 0 (rc u).2) := hw
                    refine lv_i2l (v := (ndM nb 5 true 100 0 (rc u).2).toInt64) hx hb dX6_digestReceiver_157 rfl ?_
                    refine va_callv (va_runV (As := [.long ((ndM nb 5 true 100 0 (rc u).2).toInt64)]) (rest := []) ⟨hx, hb, hml, hown, hts⟩ (c_X6_digestOne l E g (mdE nb va se rv_15) th aa_15 sv sm tx ln ro_15 ai wr (31 * (31 * (31 * (31 * (drC nb va (rc u) dg) + ((gtv (mskM nb 100) (rc u)).toInt64)) + ((rnkM (getM (mskM nb 100) (rc u).2)).toInt64)) + ((nhS (hpM nb (rc u)) (nhN 0) 0).toInt64)) + ((ndM nb 5 false 100 0 (rc u).2).toInt64)) ((ndM nb 5 true 100 0 (rc u).2).toInt64)) (cwV 1 hts gX6_digestReceiver_X6_digestOne rfl rfl rfl (by decide +kernel) ⟨Nat.le_of_ble_eq_true rfl, Nat.le_of_ble_eq_true rfl⟩) ⟨wS.blind, (w_recv hK hP 0 (by decide) rfl (ci := 6) rfl), fun U hU hW => wS.go hP hK hI hU hW⟩ rfl rfl hl.1 rfl (lv_room (Nat.le_of_ble_eq_true rfl)) dX6_digestReceiver_158 ⟨Nat.zero_le _, Nat.zero_le _⟩) hS (fun q _ h => h) (fun q h => h) (fun uu t H_16 locs_16 ht hvm hw hB hz1 hk1 hS => ?_)
                    rw [ht] at hB
                    have hP : wP E 6 g (moF E g th (mdE nb va se rv_15) aa_15 sv sm tx ln ro_15 ai wr (31 * (31 * (31 * (31 * (31 * (drC nb va (rc u) dg) + ((gtv (mskM nb 100) (rc u)).toInt64)) + ((rnkM (getM (mskM nb 100) (rc u).2)).toInt64)) + ((nhS (hpM nb (rc u)) (nhN 0) 0).toInt64)) + ((ndM nb 5 false 100 0 (rc u).2).toInt64)) + ((ndM nb 5 true 100 0 (rc u).2).toInt64))) H_16 := hB
                    refine lv_aload_n hx hb dX6_digestReceiver_161 rfl (lv_at hl 1 rfl) ?_
                    refine lv_aload_n hx hb dX6_digestReceiver_162 rfl (lv_at hl 1 rfl) ?_
                    refine lv_iload_n hx hb dX6_digestReceiver_163 rfl (lv_at hl 2 rfl) ?_
                    have hu3 : u < 3 := by omega
                    have hri_17 := hrv_15 u hu3
                    obtain ⟨w_17, hv_17, hw_17, hok_17⟩ := hri_17
                    rw [show rv_15 = va_up rv_15 u (rvE ((rc u).1) ((rc u).2.1) ((rc u).2.2.1) ((rc u).2.2.2.1) ((rc u).2.2.2.2.1) ((rc u).2.2.2.2.2.length) w_17) from by rw [← hv_17, va_up_id]] at hP
                    have hkk_17 := hok_17.2.1
                    have hll_17 := hok_17.1
                    refine va_calli (va_runV (As := [.int (nI u)]) (rest := [.ref ((g 0))]) ⟨hx, hb, hml, hown, hts⟩ (c_X6_alone l E g th aa_15 sv sm tx ln ro_15 ai wr (31 * (31 * (31 * (31 * (31 * (drC nb va (rc u) dg) + ((gtv (mskM nb 100) (rc u)).toInt64)) + ((rnkM (getM (mskM nb 100) (rc u).2)).toInt64)) + ((nhS (hpM nb (rc u)) (nhN 0) 0).toInt64)) + ((ndM nb 5 false 100 0 (rc u).2).toInt64)) + ((ndM nb 5 true 100 0 (rc u).2).toInt64)) nb va se rv_15 u ((rc u).1) ((rc u).2.1) ((rc u).2.2.1) ((rc u).2.2.2.1) ((rc u).2.2.2.2.1) ((rc u).2.2.2.2.2) hu3 ) (cwV 1 hts gX6_digestReceiver_X6_alone rfl rfl rfl (by decide +kernel) ⟨Nat.le_of_ble_eq_true rfl, Nat.le_of_ble_eq_true rfl⟩) ⟨wS.blind, (w_recv hK hP 0 (by decide) rfl (ci := 6) rfl), fun U hU hW => wS.go ⟨_, hP, hw_17, hok_17⟩ hK hI hU hW⟩ rfl rfl hl.1 rfl (lv_room (Nat.le_of_ble_eq_true rfl)) dX6_digestReceiver_164 ⟨Nat.zero_le _, Nat.zero_le _⟩) hS (fun q _ h => h) (fun q h => h) (fun r_18 uu t H_18 locs_18 ht hvm hw hB hz1 hk1 hS => ?_)
                    rw [ht] at hB
                    obtain ⟨ro_18, w_18, hP, hw_18, hok_18⟩ := hB
                    have hP : wP E 6 g (moF E g th (mdE nb va se (va_up rv_15 u (rvE ((rc u).1) ((rc u).2.1) ((rc u).2.2.1) ((rc u).2.2.2.1) ((rc u).2.2.2.2.1) (((rc u).2.2.2.2.2).length) w_18))) aa_15 sv sm tx ln ro_18 ai wr (31 * (31 * (31 * (31 * (31 * (drC nb va (rc u) dg) + ((gtv (mskM nb 100) (rc u)).toInt64)) + ((rnkM (getM (mskM nb 100) (rc u).2)).toInt64)) + ((nhS (hpM nb (rc u)) (nhN 0) 0).toInt64)) + ((ndM nb 5 false 100 0 (rc u).2).toInt64)) + ((ndM nb 5 true 100 0 (rc u).2).toInt64))) H_18 := hP
                    have hkk_18 := hok_18.2.1
                    have hal := alnM_lt hok_17.2.2
                    obtain rfl : r_18 = (nI (alnM (redW ((rc u).2.2.2.2.2)))) := hw
                    have hrz_19 : ∀ j9, j9 < 3 → rvP (rc j9) ((va_up rv_15 u (rvE ((rc u).1) ((rc u).2.1) ((rc u).2.2.1) ((rc u).2.2.2.1) ((rc u).2.2.2.2.1) (((rc u).2.2.2.2.2).length) w_18)) j9) := rvP_id hrv_15 ⟨w_18, rfl, hw_18, hok_18⟩
                    refine va_calli (va_runS (As := [.int ((nI (alnM (redW ((rc u).2.2.2.2.2)))))]) (rest := [.ref ((g 0))]) ⟨hx, hb, hml, hown, hts⟩ (c_X6_bits l (alnM (redW ((rc u).2.2.2.2.2))) (by omega)) (va_cwS 1 hts gX6_digestReceiver_X6_bits rfl rfl rfl (by decide +kernel) ⟨Nat.le_of_ble_eq_true rfl, Nat.le_of_ble_eq_true rfl⟩) ⟨wU_blind, fun U hU hW => ⟨rfl, trivial⟩⟩ rfl rfl hl.1 rfl (lv_room (Nat.le_of_ble_eq_true rfl)) dX6_digestReceiver_167 ⟨Nat.zero_le _, Nat.zero_le _⟩) hS (fun q _ h => h.elim) (fun q h => h.elim) (fun r_21 uu t H_21 locs_21 ht hvm hw hB hz1 hk1 hS => ?_)
                    have hP := hP.same hk1
                    have hpl_20 := pc_le (alnM (redW ((rc u).2.2.2.2.2)))
                    obtain rfl : r_21 = (nI (pc (alnM (redW ((rc u).2.2.2.2.2))))) := hw
                    refine lv_i2l (v := (nI (pc (alnM (redW ((rc u).2.2.2.2.2))))).toInt64) hx hb dX6_digestReceiver_170 rfl ?_
                    refine va_callv (va_runV (As := [.long ((nI (pc (alnM (redW ((rc u).2.2.2.2.2))))).toInt64)]) (rest := []) ⟨hx, hb, hml, hown, hts⟩ (c_X6_digestOne l E g (mdE nb va se (va_up rv_15 u (rvE ((rc u).1) ((rc u).2.1) ((rc u).2.2.1) ((rc u).2.2.2.1) ((rc u).2.2.2.2.1) (((rc u).2.2.2.2.2).length) w_18))) th aa_15 sv sm tx ln ro_18 ai wr (31 * (31 * (31 * (31 * (31 * (drC nb va (rc u) dg) + ((gtv (mskM nb 100) (rc u)).toInt64)) + ((rnkM (getM (mskM nb 100) (rc u).2)).toInt64)) + ((nhS (hpM nb (rc u)) (nhN 0) 0).toInt64)) + ((ndM nb 5 false 100 0 (rc u).2).toInt64)) + ((ndM nb 5 true 100 0 (rc u).2).toInt64)) ((nI (pc (alnM (redW ((rc u).2.2.2.2.2))))).toInt64)) (cwV 1 hts gX6_digestReceiver_X6_digestOne rfl rfl rfl (by decide +kernel) ⟨Nat.le_of_ble_eq_true rfl, Nat.le_of_ble_eq_true rfl⟩) ⟨wS.blind, (w_recv hK hP 0 (by decide) rfl (ci := 6) rfl), fun U hU hW => wS.go hP hK hI hU hW⟩ rfl rfl hl.1 rfl (lv_room (Nat.le_of_ble_eq_true rfl)) dX6_digestReceiver_171 ⟨Nat.zero_le _, Nat.zero_le _⟩) hS (fun q _ h => h) (fun q h => h) (fun uu t H_22 locs_22 ht hvm hw hB hz1 hk1 hS => ?_)
                    rw [ht] at hB
                    have hP : wP E 6 g (moF E g th (mdE nb va se (va_up rv_15 u (rvE ((rc u).1) ((rc u).2.1) ((rc u).2.2.1) ((rc u).2.2.2.1) ((rc u).2.2.2.2.1) (((rc u).2.2.2.2.2).length) w_18))) aa_15 sv sm tx ln ro_18 ai wr (31 * (31 * (31 * (31 * (31 * (31 * (drC nb va (rc u) dg) + ((gtv (mskM nb 100) (rc u)).toInt64)) + ((rnkM (getM (mskM nb 100) (rc u).2)).toInt64)) + ((nhS (hpM nb (rc u)) (nhN 0) 0).toInt64)) + ((ndM nb 5 false 100 0 (rc u).2).toInt64)) + ((ndM nb 5 true 100 0 (rc u).2).toInt64)) + ((nI (pc (alnM (redW ((rc u).2.2.2.2.2))))).toInt64))) H_22 := hB
                    refine lv_aload_n hx hb dX6_digestReceiver_174 rfl (lv_at hl 1 rfl) ?_
                    refine lv_aload_n hx hb dX6_digestReceiver_175 rfl (lv_at hl 1 rfl) ?_
                    refine lv_iload_n hx hb dX6_digestReceiver_176 rfl (lv_at hl 2 rfl) ?_
                    have hu3 : u < 3 := by omega
                    have hri_23 := hrz_19 u hu3
                    obtain ⟨w_23, hv_23, hw_23, hok_23⟩ := hri_23
                    rw [show (va_up rv_15 u (rvE ((rc u).1) ((rc u).2.1) ((rc u).2.2.1) ((rc u).2.2.2.1) ((rc u).2.2.2.2.1) (((rc u).2.2.2.2.2).length) w_18)) = va_up (va_up rv_15 u (rvE ((rc u).1) ((rc u).2.1) ((rc u).2.2.1) ((rc u).2.2.2.1) ((rc u).2.2.2.2.1) (((rc u).2.2.2.2.2).length) w_18)) u (rvE ((rc u).1) ((rc u).2.1) ((rc u).2.2.1) ((rc u).2.2.2.1) ((rc u).2.2.2.2.1) ((rc u).2.2.2.2.2.length) w_23) from by rw [← hv_23, va_up_id]] at hP
                    have hkk_23 := hok_23.2.1
                    have hll_23 := hok_23.1
                    refine va_calld (va_runV (As := [.int (nI u)]) (rest := [.ref ((g 0))]) ⟨hx, hb, hml, hown, hts⟩ (c_X6_used l E g th aa_15 sv sm tx ln ro_18 ai wr (31 * (31 * (31 * (31 * (31 * (31 * (drC nb va (rc u) dg) + ((gtv (mskM nb 100) (rc u)).toInt64)) + ((rnkM (getM (mskM nb 100) (rc u).2)).toInt64)) + ((nhS (hpM nb (rc u)) (nhN 0) 0).toInt64)) + ((ndM nb 5 false 100 0 (rc u).2).toInt64)) + ((ndM nb 5 true 100 0 (rc u).2).toInt64)) + ((nI (pc (alnM (redW ((rc u).2.2.2.2.2))))).toInt64)) nb va se (va_up rv_15 u (rvE ((rc u).1) ((rc u).2.1) ((rc u).2.2.1) ((rc u).2.2.2.1) ((rc u).2.2.2.2.1) (((rc u).2.2.2.2.2).length) w_18)) u ((rc u).1) ((rc u).2.1) ((rc u).2.2.1) ((rc u).2.2.2.1) ((rc u).2.2.2.2.1) ((rc u).2.2.2.2.2) hu3 ) (cwV 1 hts gX6_digestReceiver_X6_used rfl rfl rfl (by decide +kernel) ⟨Nat.le_of_ble_eq_true rfl, Nat.le_of_ble_eq_true rfl⟩) ⟨wS.blind, (w_recv hK hP 0 (by decide) rfl (ci := 6) rfl), fun U hU hW => wS.go ⟨_, hP, hw_23, hok_23⟩ hK hI hU hW⟩ rfl rfl hl.1 rfl (lv_room (Nat.le_of_ble_eq_true rfl)) dX6_digestReceiver_177 ⟨Nat.zero_le _, Nat.zero_le _⟩) hS (fun q _ h => h.elim) (fun q h => h.elim) (fun r_24 uu t H_24 locs_24 ht hvm hw hB hz1 hk1 hS => ?_)
                    have hP := hP.same hk1
                    obtain rfl : r_24 = (usF ((rc u).2.2.1) ((rc u).2.2.2.1) ((rc u).2.2.2.2.1)) := hw
                    have hrz_25 : ∀ j9, j9 < 3 → rvP (rc j9) ((va_up (va_up rv_15 u (rvE ((rc u).1) ((rc u).2.1) ((rc u).2.2.1) ((rc u).2.2.2.1) ((rc u).2.2.2.2.1) (((rc u).2.2.2.2.2).length) w_18)) u (rvE ((rc u).1) ((rc u).2.1) ((rc u).2.2.1) ((rc u).2.2.2.1) ((rc u).2.2.2.2.1) ((rc u).2.2.2.2.2.length) w_23)) j9) := rvP_id hrz_19 ⟨w_23, rfl, hw_23, hok_23⟩
                    refine va_calll (va_runS (As := [.double ((usF ((rc u).2.2.1) ((rc u).2.2.2.1) ((rc u).2.2.2.2.1)))]) (rest := [.ref ((g 0))]) ⟨hx, hb, hml, hown, hts⟩ (c_X6_bitsOf l (usF ((rc u).2.2.1) ((rc u).2.2.2.1) ((rc u).2.2.2.2.1)) (nn_usF _ _ _) hbo) (va_cwS 1 hts gX6_digestReceiver_X6_bitsOf rfl rfl rfl (by decide +kernel) ⟨Nat.le_of_ble_eq_true rfl, Nat.le_of_ble_eq_true rfl⟩) ⟨wU_blind, fun U hU hW => ⟨rfl, trivial⟩⟩ rfl rfl hl.1 rfl (lv_room (Nat.le_of_ble_eq_true rfl)) dX6_digestReceiver_180 ⟨Nat.zero_le _, Nat.zero_le _⟩) hS (fun q _ h => h.elim) (fun q h => h.elim) (fun r_26 uu t H_26 locs_26 ht hvm hw hB hz1 hk1 hS => ?_)
                    have hP := hP.same hk1
                    obtain rfl : r_26 = (bmF (usF ((rc u).2.2.1) ((rc u).2.2.2.1) ((rc u).2.2.2.2.1))) := hw
                    refine va_callv (va_runV (As := [.long ((bmF (usF ((rc u).2.2.1) ((rc u).2.2.2.1) ((rc u).2.2.2.2.1))))]) (rest := []) ⟨hx, hb, hml, hown, hts⟩ (c_X6_digestOne l E g (mdE nb va se (va_up (va_up rv_15 u (rvE ((rc u).1) ((rc u).2.1) ((rc u).2.2.1) ((rc u).2.2.2.1) ((rc u).2.2.2.2.1) (((rc u).2.2.2.2.2).length) w_18)) u (rvE ((rc u).1) ((rc u).2.1) ((rc u).2.2.1) ((rc u).2.2.2.1) ((rc u).2.2.2.2.1) ((rc u).2.2.2.2.2.length) w_23))) th aa_15 sv sm tx ln ro_18 ai wr (31 * (31 * (31 * (31 * (31 * (31 * (drC nb va (rc u) dg) + ((gtv (mskM nb 100) (rc u)).toInt64)) + ((rnkM (getM (mskM nb 100) (rc u).2)).toInt64)) + ((nhS (hpM nb (rc u)) (nhN 0) 0).toInt64)) + ((ndM nb 5 false 100 0 (rc u).2).toInt64)) + ((ndM nb 5 true 100 0 (rc u).2).toInt64)) + ((nI (pc (alnM (redW ((rc u).2.2.2.2.2))))).toInt64)) (bmF (usF ((rc u).2.2.1) ((rc u).2.2.2.1) ((rc u).2.2.2.2.1)))) (cwV 1 hts gX6_digestReceiver_X6_digestOne rfl rfl rfl (by decide +kernel) ⟨Nat.le_of_ble_eq_true rfl, Nat.le_of_ble_eq_true rfl⟩) ⟨wS.blind, (w_recv hK hP 0 (by decide) rfl (ci := 6) rfl), fun U hU hW => wS.go hP hK hI hU hW⟩ rfl rfl hl.1 rfl (lv_room (Nat.le_of_ble_eq_true rfl)) dX6_digestReceiver_183 ⟨Nat.zero_le _, Nat.zero_le _⟩) hS (fun q _ h => h) (fun q h => h) (fun uu t H_27 locs_27 ht hvm hw hB hz1 hk1 hS => ?_)
                    rw [ht] at hB
                    have hP : wP E 6 g (moF E g th (mdE nb va se (va_up (va_up rv_15 u (rvE ((rc u).1) ((rc u).2.1) ((rc u).2.2.1) ((rc u).2.2.2.1) ((rc u).2.2.2.2.1) (((rc u).2.2.2.2.2).length) w_18)) u (rvE ((rc u).1) ((rc u).2.1) ((rc u).2.2.1) ((rc u).2.2.2.1) ((rc u).2.2.2.2.1) ((rc u).2.2.2.2.2.length) w_23))) aa_15 sv sm tx ln ro_18 ai wr (31 * (31 * (31 * (31 * (31 * (31 * (31 * (drC nb va (rc u) dg) + ((gtv (mskM nb 100) (rc u)).toInt64)) + ((rnkM (getM (mskM nb 100) (rc u).2)).toInt64)) + ((nhS (hpM nb (rc u)) (nhN 0) 0).toInt64)) + ((ndM nb 5 false 100 0 (rc u).2).toInt64)) + ((ndM nb 5 true 100 0 (rc u).2).toInt64)) + ((nI (pc (alnM (redW ((rc u).2.2.2.2.2))))).toInt64)) + (bmF (usF ((rc u).2.2.1) ((rc u).2.2.2.1) ((rc u).2.2.2.2.1))))) H_27 := hB
                    exact W.vret hx hb hr (fun t ht hW => ⟨⟨(), rfl, trivial, (by show moZ E g th sv sm tx ln ai wr (drM nb va (rc u) dg) nb va se rc (t.heap); rw [ht]; exact ⟨_, _, _, hP, hrz_25⟩)⟩, hS.F ht⟩) hS.2.2 dX6_digestReceiver_186
                  · have n_5 : ¬ (((rc u).2.2.2.2.2.length) ≤ j3) := fun z => c_5 ((nI_leI (a := ((rc u).2.2.2.2.2.length)) (b := j3) (by omega) (by omega)).mpr z)
                    exfalso
                    omega
                | succ k3 ihk3 =>
                  intro j3 dv4 aa4 ro4 rv4 H locs ls hi3 hres6 hrv4 hP hS hl
                  have hu3 : u < 3 := by omega
                  have hri_28 := hrv4 u hu3
                  obtain ⟨w_28, hv_28, hw_28, hok_28⟩ := hri_28
                  rw [show rv4 = va_up rv4 u (rvE ((rc u).1) ((rc u).2.1) ((rc u).2.2.1) ((rc u).2.2.2.1) ((rc u).2.2.2.2.1) ((rc u).2.2.2.2.2.length) w_28) from by rw [← hv_28, va_up_id]] at hP
                  have hkk_28 := hok_28.2.1
                  have hll_28 := hok_28.1
                  refine lv_iload_n hx hb dX6_digestReceiver_56 rfl (lv_at hl 0 rfl) ?_
                  refine lv_aload_n hx hb dX6_digestReceiver_57 rfl (lv_at hl 1 rfl) ?_
                  refine w_get (C := RX6) (T := TX6) (N := 11) (ci := 6) (v := .ref ((g 1))) hx hb hts hin6 hown hK hP 0 (by decide) rfl rfl 1 (by decide) (hts (.fieldLink RX6 7 "MixedBlocksModel" "s" "[I") (List.mem_of_getElem? (i := 1) rfl)) (fun _ h9 => h9) rfl dX6_digestReceiver_58 ?_
                  refine lv_iload_n hx hb dX6_digestReceiver_61 rfl (lv_at hl 2 rfl) ?_
                  refine lv_iconst (v := 5) hx hb dX6_digestReceiver_62 (by decide) ?_
                  refine va_calli (va_runS (As := [.int (nI u), .int 5]) (rest := [.ref ((g 1)), .int (nI j3)]) ⟨hx, hb, hml, hown, hts⟩ (c_X6_of l u 5) (va_cwS 2 hts gX6_digestReceiver_X6_of rfl rfl rfl (by decide +kernel) ⟨Nat.le_of_ble_eq_true rfl, Nat.le_of_ble_eq_true rfl⟩) ⟨wU_blind, fun U hU hW => ⟨rfl, trivial⟩⟩ rfl rfl hl.1 rfl (lv_room (Nat.le_of_ble_eq_true rfl)) dX6_digestReceiver_63 ⟨Nat.zero_le _, Nat.zero_le _⟩) hS (fun q _ h => h.elim) (fun q h => h.elim) (fun r_29 uu t H_29 locs_29 ht hvm hw hB hz1 hk1 hS => ?_)
                  have hP := hP.same hk1
                  obtain rfl : r_29 = (nI (14 + 30 * u + 5)) := hw
                  refine w_iald hx hb hK hP 1 (by decide) rfl (vp_in_nI (by omega) (by decide)) dX6_digestReceiver_66 ?_
                  rw [nI_clamp (by omega), md_g5]
                  refine lv_icmp_ge (tgt := 100) hx hb dX6_digestReceiver_67 (by decide) (fun c_30 => ?_) (fun c_30 => ?_)
                  · have n_30 : ((rc u).2.2.2.2.2.length) ≤ j3 := (nI_leI (a := ((rc u).2.2.2.2.2.length)) (b := j3) (by omega) (by omega)).mp c_30
                    exfalso
                    omega
                  · have n_30 : ¬ (((rc u).2.2.2.2.2.length) ≤ j3) := fun z => c_30 ((nI_leI (a := ((rc u).2.2.2.2.2.length)) (b := j3) (by omega) (by omega)).mpr z)
                    refine lv_aload_n hx hb dX6_digestReceiver_70 rfl (lv_at hl 1 rfl) ?_
                    refine lv_aload_n hx hb dX6_digestReceiver_71 rfl (lv_at hl 1 rfl) ?_
                    refine lv_iload_n hx hb dX6_digestReceiver_72 rfl (lv_at hl 2 rfl) ?_
                    refine lv_iload_n hx hb dX6_digestReceiver_73 rfl (lv_at hl 0 rfl) ?_
                    refine lv_iconst (v := 0) hx hb dX6_digestReceiver_74 (by decide) ?_
                    refine va_calli (va_runV (As := [.int (nI u), .int (nI j3), .int 0]) (rest := [.ref ((g 0))]) ⟨hx, hb, hml, hown, hts⟩ (c_X6_waitsAt l E g th aa4 sv sm tx ln ro4 ai wr dv4 nb va se rv4 u ((rc u).1) ((rc u).2.1) ((rc u).2.2.1) ((rc u).2.2.2.1) ((rc u).2.2.2.2.1) ((rc u).2.2.2.2.2) hu3 j3 0 (by omega) (by omega) hnb) (cwV 3 hts gX6_digestReceiver_X6_waitsAt rfl rfl rfl (by decide +kernel) ⟨Nat.le_of_ble_eq_true rfl, Nat.le_of_ble_eq_true rfl⟩) ⟨wS.blind, (w_recv hK hP 0 (by decide) rfl (ci := 6) rfl), fun U hU hW => wS.go ⟨_, hP, hw_28, hok_28⟩ hK hI hU hW⟩ rfl rfl hl.1 rfl (lv_room (Nat.le_of_ble_eq_true rfl)) dX6_digestReceiver_75 ⟨Nat.zero_le _, Nat.zero_le _⟩) hS (fun q _ h => h.elim) (fun q h => h.elim) (fun r_31 uu t H_31 locs_31 ht hvm hw hB hz1 hk1 hS => ?_)
                    have hP := hP.same hk1
                    rw [if_neg (by omega)] at hw
                    obtain rfl : r_31 = (nI (((rc u).2.2.2.2.2).getD j3 0)) := hw
                    refine lv_i2l (v := (nI (((rc u).2.2.2.2.2).getD j3 0)).toInt64) hx hb dX6_digestReceiver_78 rfl ?_
                    refine va_callv (va_runV (As := [.long ((nI (((rc u).2.2.2.2.2).getD j3 0)).toInt64)]) (rest := []) ⟨hx, hb, hml, hown, hts⟩ (c_X6_digestOne l E g (mdE nb va se (va_up rv4 u (rvE ((rc u).1) ((rc u).2.1) ((rc u).2.2.1) ((rc u).2.2.2.1) ((rc u).2.2.2.2.1) ((rc u).2.2.2.2.2.length) w_28))) th aa4 sv sm tx ln ro4 ai wr dv4 ((nI (((rc u).2.2.2.2.2).getD j3 0)).toInt64)) (cwV 1 hts gX6_digestReceiver_X6_digestOne rfl rfl rfl (by decide +kernel) ⟨Nat.le_of_ble_eq_true rfl, Nat.le_of_ble_eq_true rfl⟩) ⟨wS.blind, (w_recv hK hP 0 (by decide) rfl (ci := 6) rfl), fun U hU hW => wS.go hP hK hI hU hW⟩ rfl rfl hl.1 rfl (lv_room (Nat.le_of_ble_eq_true rfl)) dX6_digestReceiver_79 ⟨Nat.zero_le _, Nat.zero_le _⟩) hS (fun q _ h => h) (fun q h => h) (fun uu t H_32 locs_32 ht hvm hw hB hz1 hk1 hS => ?_)
                    rw [ht] at hB
                    have hP : wP E 6 g (moF E g th (mdE nb va se (va_up rv4 u (rvE ((rc u).1) ((rc u).2.1) ((rc u).2.2.1) ((rc u).2.2.2.1) ((rc u).2.2.2.2.1) ((rc u).2.2.2.2.2.length) w_28))) aa4 sv sm tx ln ro4 ai wr (31 * dv4 + ((nI (((rc u).2.2.2.2.2).getD j3 0)).toInt64))) H_32 := hB
                    refine lv_aload_n hx hb dX6_digestReceiver_82 rfl (lv_at hl 1 rfl) ?_
                    refine lv_aload_n hx hb dX6_digestReceiver_83 rfl (lv_at hl 1 rfl) ?_
                    refine lv_iload_n hx hb dX6_digestReceiver_84 rfl (lv_at hl 2 rfl) ?_
                    refine lv_iload_n hx hb dX6_digestReceiver_85 rfl (lv_at hl 0 rfl) ?_
                    refine lv_iconst (v := 1) hx hb dX6_digestReceiver_86 (by decide) ?_
                    refine va_calli (va_runV (As := [.int (nI u), .int (nI j3), .int 1]) (rest := [.ref ((g 0))]) ⟨hx, hb, hml, hown, hts⟩ (c_X6_waitsAt l E g th aa4 sv sm tx ln ro4 ai wr (31 * dv4 + ((nI (((rc u).2.2.2.2.2).getD j3 0)).toInt64)) nb va se rv4 u ((rc u).1) ((rc u).2.1) ((rc u).2.2.1) ((rc u).2.2.2.1) ((rc u).2.2.2.2.1) ((rc u).2.2.2.2.2) hu3 j3 1 (by omega) (by omega) hnb) (cwV 3 hts gX6_digestReceiver_X6_waitsAt rfl rfl rfl (by decide +kernel) ⟨Nat.le_of_ble_eq_true rfl, Nat.le_of_ble_eq_true rfl⟩) ⟨wS.blind, (w_recv hK hP 0 (by decide) rfl (ci := 6) rfl), fun U hU hW => wS.go ⟨_, hP, hw_28, hok_28⟩ hK hI hU hW⟩ rfl rfl hl.1 rfl (lv_room (Nat.le_of_ble_eq_true rfl)) dX6_digestReceiver_87 ⟨Nat.zero_le _, Nat.zero_le _⟩) hS (fun q _ h => h.elim) (fun q h => h.elim) (fun r_33 uu t H_33 locs_33 ht hvm hw hB hz1 hk1 hS => ?_)
                    have hP := hP.same hk1
                    rw [if_neg (by omega)] at hw
                    obtain rfl : r_33 = (vlM nb va (((rc u).2.2.2.2.2).getD j3 0)) := hw
                    refine lv_i2l (v := (vlM nb va (((rc u).2.2.2.2.2).getD j3 0)).toInt64) hx hb dX6_digestReceiver_90 rfl ?_
                    refine va_callv (va_runV (As := [.long ((vlM nb va (((rc u).2.2.2.2.2).getD j3 0)).toInt64)]) (rest := []) ⟨hx, hb, hml, hown, hts⟩ (c_X6_digestOne l E g (mdE nb va se (va_up rv4 u (rvE ((rc u).1) ((rc u).2.1) ((rc u).2.2.1) ((rc u).2.2.2.1) ((rc u).2.2.2.2.1) ((rc u).2.2.2.2.2.length) w_28))) th aa4 sv sm tx ln ro4 ai wr (31 * dv4 + ((nI (((rc u).2.2.2.2.2).getD j3 0)).toInt64)) ((vlM nb va (((rc u).2.2.2.2.2).getD j3 0)).toInt64)) (cwV 1 hts gX6_digestReceiver_X6_digestOne rfl rfl rfl (by decide +kernel) ⟨Nat.le_of_ble_eq_true rfl, Nat.le_of_ble_eq_true rfl⟩) ⟨wS.blind, (w_recv hK hP 0 (by decide) rfl (ci := 6) rfl), fun U hU hW => wS.go hP hK hI hU hW⟩ rfl rfl hl.1 rfl (lv_room (Nat.le_of_ble_eq_true rfl)) dX6_digestReceiver_91 ⟨Nat.zero_le _, Nat.zero_le _⟩) hS (fun q _ h => h) (fun q h => h) (fun uu t H_34 locs_34 ht hvm hw hB hz1 hk1 hS => ?_)
                    rw [ht] at hB
                    have hP : wP E 6 g (moF E g th (mdE nb va se (va_up rv4 u (rvE ((rc u).1) ((rc u).2.1) ((rc u).2.2.1) ((rc u).2.2.2.1) ((rc u).2.2.2.2.1) ((rc u).2.2.2.2.2.length) w_28))) aa4 sv sm tx ln ro4 ai wr (31 * (31 * dv4 + ((nI (((rc u).2.2.2.2.2).getD j3 0)).toInt64)) + ((vlM nb va (((rc u).2.2.2.2.2).getD j3 0)).toInt64))) H_34 := hB
                    refine lv_iinc (v := (nI (j3 + 1))) (lv' := [(2, .int (nI (j3 + 1))), (0, .ref ((g 0))), (1, .int (nI u))]) hx hb dX6_digestReceiver_94 hl (k := 0) rfl (nI_1 _) (by decide) rfl (fun ls hl => ?_)
                    refine lv_goto (tgt := 56) hx hb dX6_digestReceiver_97 (by decide) ?_
                    have hrz_35 : ∀ j9, j9 < 3 → rvP (rc j9) ((va_up rv4 u (rvE ((rc u).1) ((rc u).2.1) ((rc u).2.2.1) ((rc u).2.2.2.1) ((rc u).2.2.2.2.1) ((rc u).2.2.2.2.2.length) w_28)) j9) := rvP_id hrv4 ⟨w_28, rfl, hw_28, hok_28⟩
                    have hres9 : hsV nb va (rc u).2.2.2.2.2 k3 (j3 + 1) (31 * (31 * dv4 + ((nI (((rc u).2.2.2.2.2).getD j3 0)).toInt64)) + ((vlM nb va (((rc u).2.2.2.2.2).getD j3 0)).toInt64)) = drC nb va (rc u) dg := by rw [← hres6]; rfl
                    exact ihk3 (j3 + 1) (31 * (31 * dv4 + ((nI (((rc u).2.2.2.2.2).getD j3 0)).toInt64)) + ((vlM nb va (((rc u).2.2.2.2.2).getD j3 0)).toInt64)) aa4 ro4 (va_up rv4 u (rvE ((rc u).1) ((rc u).2.1) ((rc u).2.2.1) ((rc u).2.2.2.1) ((rc u).2.2.2.2.1) ((rc u).2.2.2.2.2.length) w_28)) _ _ ls (by omega) hres9 hrz_35 hP hS (lv_sub hl [0, 1, 2] rfl)
              exact L56 (rc u).2.2.2.2.2.length 0 dv3 aa3 ro3 rv3 _ _ ls (by omega) (by rw [hres5]; rfl) hrv3 hP hS (lv_sub hl [0, 1, 2] rfl)
            · have n_2 : ¬ (nb ≤ j2) := fun z => c_2 ((nI_leI (a := nb) (b := j2) (by omega) (by omega)).mpr z)
              exfalso
              omega
          | succ k2 ihk2 =>
            intro j2 dv3 aa3 ro3 rv3 H locs ls hi2 hres3 hrv3 hP hS hl
            refine lv_iload_n hx hb dX6_digestReceiver_27 rfl (lv_at hl 0 rfl) ?_
            refine lv_aload_n hx hb dX6_digestReceiver_28 rfl (lv_at hl 1 rfl) ?_
            refine w_get (C := RX6) (T := TX6) (N := 11) (ci := 6) (v := .ref ((g 1))) hx hb hts hin6 hown hK hP 0 (by decide) rfl rfl 1 (by decide) (hts (.fieldLink RX6 7 "MixedBlocksModel" "s" "[I") (List.mem_of_getElem? (i := 1) rfl)) (fun _ h9 => h9) rfl dX6_digestReceiver_29 ?_
            refine lv_iconst (v := 0) hx hb dX6_digestReceiver_32 (by decide) ?_
            refine w_iald hx hb hK hP 1 (by decide) rfl (vp_in_nI (n := 0) (by decide) (by decide)) dX6_digestReceiver_33 ?_
            rw [mdE_0]
            refine lv_icmp_ge (tgt := 54) hx hb dX6_digestReceiver_34 (by decide) (fun c_36 => ?_) (fun c_36 => ?_)
            · have n_36 : nb ≤ j2 := (nI_leI (a := nb) (b := j2) (by omega) (by omega)).mp c_36
              exfalso
              omega
            · have n_36 : ¬ (nb ≤ j2) := fun z => c_36 ((nI_leI (a := nb) (b := j2) (by omega) (by omega)).mpr z)
              refine lv_aload_n hx hb dX6_digestReceiver_37 rfl (lv_at hl 1 rfl) ?_
              refine lv_aload_n hx hb dX6_digestReceiver_38 rfl (lv_at hl 1 rfl) ?_
              refine lv_iload_n hx hb dX6_digestReceiver_39 rfl (lv_at hl 2 rfl) ?_
              refine lv_iload_n hx hb dX6_digestReceiver_40 rfl (lv_at hl 0 rfl) ?_
              have hu3 : u < 3 := by omega
              have hri_37 := hrv3 u hu3
              obtain ⟨w_37, hv_37, hw_37, hok_37⟩ := hri_37
              rw [show rv3 = va_up rv3 u (rvE ((rc u).1) ((rc u).2.1) ((rc u).2.2.1) ((rc u).2.2.2.1) ((rc u).2.2.2.2.1) ((rc u).2.2.2.2.2.length) w_37) from by rw [← hv_37, va_up_id]] at hP
              have hkk_37 := hok_37.2.1
              have hll_37 := hok_37.1
              refine va_calli (va_runV (As := [.int (nI u), .int (nI j2)]) (rest := [.ref ((g 0))]) ⟨hx, hb, hml, hown, hts⟩ (c_X6_knownOf l E g th aa3 sv sm tx ln ro3 ai wr dv3 nb va se rv3 u ((rc u).1) ((rc u).2.1) ((rc u).2.2.1) ((rc u).2.2.2.1) ((rc u).2.2.2.2.1) ((rc u).2.2.2.2.2) hu3 j2 (by omega)) (cwV 2 hts gX6_digestReceiver_X6_knownOf rfl rfl rfl (by decide +kernel) ⟨Nat.le_of_ble_eq_true rfl, Nat.le_of_ble_eq_true rfl⟩) ⟨wS.blind, (w_recv hK hP 0 (by decide) rfl (ci := 6) rfl), fun U hU hW => wS.go ⟨_, hP, hw_37, hok_37⟩ hK hI hU hW⟩ rfl rfl hl.1 rfl (lv_room (Nat.le_of_ble_eq_true rfl)) dX6_digestReceiver_41 ⟨Nat.zero_le _, Nat.zero_le _⟩) hS (fun q _ h => h.elim) (fun q h => h.elim) (fun r_38 uu t H_38 locs_38 ht hvm hw hB hz1 hk1 hS => ?_)
              have hP := hP.same hk1
              obtain rfl : r_38 = (if ((rc u).2.1).testBit j2 = true then va j2 else -1) := hw
              have hrz_39 : ∀ j9, j9 < 3 → rvP (rc j9) ((va_up rv3 u (rvE ((rc u).1) ((rc u).2.1) ((rc u).2.2.1) ((rc u).2.2.2.1) ((rc u).2.2.2.2.1) ((rc u).2.2.2.2.2.length) w_37)) j9) := rvP_id hrv3 ⟨w_37, rfl, hw_37, hok_37⟩
              refine lv_i2l (v := (if ((rc u).2.1).testBit j2 = true then va j2 else -1).toInt64) hx hb dX6_digestReceiver_44 rfl ?_
              refine va_callv (va_runV (As := [.long ((if ((rc u).2.1).testBit j2 = true then va j2 else -1).toInt64)]) (rest := []) ⟨hx, hb, hml, hown, hts⟩ (c_X6_digestOne l E g (mdE nb va se (va_up rv3 u (rvE ((rc u).1) ((rc u).2.1) ((rc u).2.2.1) ((rc u).2.2.2.1) ((rc u).2.2.2.2.1) ((rc u).2.2.2.2.2.length) w_37))) th aa3 sv sm tx ln ro3 ai wr dv3 ((if ((rc u).2.1).testBit j2 = true then va j2 else -1).toInt64)) (cwV 1 hts gX6_digestReceiver_X6_digestOne rfl rfl rfl (by decide +kernel) ⟨Nat.le_of_ble_eq_true rfl, Nat.le_of_ble_eq_true rfl⟩) ⟨wS.blind, (w_recv hK hP 0 (by decide) rfl (ci := 6) rfl), fun U hU hW => wS.go hP hK hI hU hW⟩ rfl rfl hl.1 rfl (lv_room (Nat.le_of_ble_eq_true rfl)) dX6_digestReceiver_45 ⟨Nat.zero_le _, Nat.zero_le _⟩) hS (fun q _ h => h) (fun q h => h) (fun uu t H_40 locs_40 ht hvm hw hB hz1 hk1 hS => ?_)
              rw [ht] at hB
              have hP : wP E 6 g (moF E g th (mdE nb va se (va_up rv3 u (rvE ((rc u).1) ((rc u).2.1) ((rc u).2.2.1) ((rc u).2.2.2.1) ((rc u).2.2.2.2.1) ((rc u).2.2.2.2.2.length) w_37))) aa3 sv sm tx ln ro3 ai wr (31 * dv3 + ((if ((rc u).2.1).testBit j2 = true then va j2 else -1).toInt64))) H_40 := hB
              refine lv_iinc (v := (nI (j2 + 1))) (lv' := [(2, .int (nI (j2 + 1))), (0, .ref ((g 0))), (1, .int (nI u))]) hx hb dX6_digestReceiver_48 hl (k := 0) rfl (nI_1 _) (by decide) rfl (fun ls hl => ?_)
              refine lv_goto (tgt := 27) hx hb dX6_digestReceiver_51 (by decide) ?_
              have hres9 : hsN (fun b => knM va (rc u).2.1 b) k2 (j2 + 1) (31 * dv3 + ((if ((rc u).2.1).testBit j2 = true then va j2 else -1).toInt64)) = drB nb va (rc u) dg := by rw [← hres3]; rfl
              exact ihk2 (j2 + 1) (31 * dv3 + ((if ((rc u).2.1).testBit j2 = true then va j2 else -1).toInt64)) aa3 ro3 (va_up rv3 u (rvE ((rc u).1) ((rc u).2.1) ((rc u).2.2.1) ((rc u).2.2.2.1) ((rc u).2.2.2.2.1) ((rc u).2.2.2.2.2.length) w_37)) _ _ ls (by omega) hres9 hrz_39 hP hS (lv_sub hl [0, 1, 2] rfl)
        exact L27 nb 0 dv2 aa2 ro2 rv2 _ _ ls (by omega) (by rw [hres2]; rfl) hrv2 hP hS (lv_sub hl [0, 1, 2] rfl)
      · have n_1 : ¬ (9 ≤ j) := fun z => c_1 ((nI_leI (a := 9) (b := j) (by omega) (by omega)).mpr z)
        exfalso
        omega
    | succ k ihk =>
      intro j dv2 aa2 ro2 rv2 H locs ls hi hres hrv2 hP hS hl
      refine lv_iload_n hx hb dX6_digestReceiver_2 rfl (lv_at hl 0 rfl) ?_
      refine lv_bipush (v := 9) hx hb dX6_digestReceiver_3 (by decide) ?_
      refine lv_icmp_ge (tgt := 25) hx hb dX6_digestReceiver_5 (by decide) (fun c_41 => ?_) (fun c_41 => ?_)
      · have n_41 : 9 ≤ j := (nI_leI (a := 9) (b := j) (by omega) (by omega)).mp c_41
        exfalso
        omega
      · have n_41 : ¬ (9 ≤ j) := fun z => c_41 ((nI_leI (a := 9) (b := j) (by omega) (by omega)).mpr z)
        refine lv_aload_n hx hb dX6_digestReceiver_8 rfl (lv_at hl 1 rfl) ?_
        refine lv_aload_n hx hb dX6_digestReceiver_9 rfl (lv_at hl 1 rfl) ?_
        refine lv_iload_n hx hb dX6_digestReceiver_10 rfl (lv_at hl 2 rfl) ?_
        refine lv_iload_n hx hb dX6_digestReceiver_11 rfl (lv_at hl 0 rfl) ?_
        refine va_calli (va_runV (As := [.int (nI u), .int (nI j)]) (rest := [.ref ((g 0))]) ⟨hx, hb, hml, hown, hts⟩ (c_X6_told l E g th sv sm tx ln ai wr dv2 nb va se rc u (by omega) j (by omega) hnb) (cwV 2 hts gX6_digestReceiver_X6_told rfl rfl rfl (by decide +kernel) ⟨Nat.le_of_ble_eq_true rfl, Nat.le_of_ble_eq_true rfl⟩) ⟨wS.blind, (w_recv hK hP 0 (by decide) rfl (ci := 6) rfl), fun U hU hW => wS.go ⟨_, _, _, hP, hrv2⟩ hK hI hU hW⟩ rfl rfl hl.1 rfl (lv_room (Nat.le_of_ble_eq_true rfl)) dX6_digestReceiver_12 ⟨Nat.zero_le _, Nat.zero_le _⟩) hS (fun q _ h => h) (fun q h => h) (fun r_42 uu t H_42 locs_42 ht hvm hw hB hz1 hk1 hS => ?_)
        rw [ht] at hB
        obtain ⟨aa_42, ro_42, rv_42, hP, hrv_42⟩ := hB
        have hP : wP E 6 g (moF E g th (mdE nb va se rv_42) aa_42 sv sm tx ln ro_42 ai wr dv2) H_42 := hP
        obtain rfl : r_42 = (numM nb (rc u) j) := hw
        refine lv_i2l (v := (numM nb (rc u) j).toInt64) hx hb dX6_digestReceiver_15 rfl ?_
        refine va_callv (va_runV (As := [.long ((numM nb (rc u) j).toInt64)]) (rest := []) ⟨hx, hb, hml, hown, hts⟩ (c_X6_digestOne l E g (mdE nb va se rv_42) th aa_42 sv sm tx ln ro_42 ai wr dv2 ((numM nb (rc u) j).toInt64)) (cwV 1 hts gX6_digestReceiver_X6_digestOne rfl rfl rfl (by decide +kernel) ⟨Nat.le_of_ble_eq_true rfl, Nat.le_of_ble_eq_true rfl⟩) ⟨wS.blind, (w_recv hK hP 0 (by decide) rfl (ci := 6) rfl), fun U hU hW => wS.go hP hK hI hU hW⟩ rfl rfl hl.1 rfl (lv_room (Nat.le_of_ble_eq_true rfl)) dX6_digestReceiver_16 ⟨Nat.zero_le _, Nat.zero_le _⟩) hS (fun q _ h => h) (fun q h => h) (fun uu t H_43 locs_43 ht hvm hw hB hz1 hk1 hS => ?_)
        rw [ht] at hB
        have hP : wP E 6 g (moF E g th (mdE nb va se rv_42) aa_42 sv sm tx ln ro_42 ai wr (31 * dv2 + ((numM nb (rc u) j).toInt64))) H_43 := hB
        refine lv_iinc (v := (nI (j + 1))) (lv' := [(2, .int (nI (j + 1))), (0, .ref ((g 0))), (1, .int (nI u))]) hx hb dX6_digestReceiver_19 hl (k := 0) rfl (nI_1 _) (by decide) rfl (fun ls hl => ?_)
        refine lv_goto (tgt := 2) hx hb dX6_digestReceiver_22 (by decide) ?_
        have hres9 : hsN (fun j => numM nb (rc u) j) k (j + 1) (31 * dv2 + ((numM nb (rc u) j).toInt64)) = drA nb (rc u) dg := by rw [← hres]; rfl
        exact ihk (j + 1) (31 * dv2 + ((numM nb (rc u) j).toInt64)) aa_42 ro_42 rv_42 _ _ ls (by omega) hres9 hrv_42 hP hS (lv_sub hl [0, 1, 2] rfl)
  exact L2 9 0 dg aa ro rv _ _ ls rfl rfl hrv hP hS (lv_sub hl [0, 1, 2] rfl)
set_option maxHeartbeats 4000000 in
set_option maxRecDepth 100000 in
theorem c_X6_digest_ok (l : Launch) (E : wE) (g : Nat → Nat) (th : Int32) (ln : Nat) (tx : Nat → Int32) (nb : Nat) (va : Nat → Int32) (se : Int32) (rc : Nat → MR) (ke : Nat) (hs : Nat → MS) (hbo : ∀ i, i < 3 → bOK (usF (rc i).2.2.1 (rc i).2.2.2.1 (rc i).2.2.2.2.1)) : Met l yX6_digest wsX6_digest ({ frames := 7, cells := 0, slots := 0, locals := 163 }) (va_Pc [.ref ((g 0))] (wS E 6 g (MOB E g th ln tx nb va se rc ke hs))) (va_Ql (fun (r : Int64) (_ : Unit) => r = dmF nb va se rc ke ln tx) (fun _ t => MOB E g 0 ln tx nb va se rc ke hs (t.heap)) (wF 6 g)) 0 0 (wF 6 g) := by
  refine Met.ofW (cc := cX6_digest) (maxL := 2) (ret := (some .long)) (by decide) rfl ?_
  intro p e s m args below meth c s₁ B hml hv
  obtain ⟨rfl, ⟨sv, ai, wr, dg, ⟨aa, ro, rv, hP, hrv⟩, hsv, hke, hln, hnb2, hnb⟩, hK, hI⟩ := hv
  have hx := B.exec
  have hb := B.bytes
  have hr := B.returns
  have hts := atoms_spec (ws := wsX6_digest) B.pre
  have hown : s.vm.findClass RX6 = some m.cls := findClass_of_methodNamed B.named
  have hlocks := B.notSynchronized
  have hS : va_S (wF 6 g) s.heap s.heap [] := va_S.rf
  have hin6 : ∀ w ∈ wsX60, w ∈ wsX6_digest := by decide +kernel
  have hA : ∀ k, k < 6 → (wF 6 g) (g k) := wF_in
  have hl := lv_entry ([.ref ((g 0))]) (n := 2) (Nat.le_of_ble_eq_true rfl)
  rw [lg_entry_eq]
  generalize (lg_sl ([.ref ((g 0))]) ++ List.replicate (2 - (lg_sl ([.ref ((g 0))])).length) Slot.unset).toArray = ls at hl ⊢
  have hl : lv_has ls 2 [(0, .ref ((g 0)))] := hl
  have hbN := hnb
  refine lv_aload_n hx hb dX6_digest_0 rfl (lv_at hl 0 rfl) ?_
  refine lv_iconst (v := 0) hx hb dX6_digest_1 (by decide) ?_
  refine w_put (C := RX6) (T := TX6) (N := 11) (ci := 6) (v := .int 0) (ty := .int) hx hb hts hin6 tyX6 tyX6_ok nmX6 hown hK hP hI hA hS 0 (by decide) rfl rfl 0 (by decide) (hts (.fieldLink RX6 25 "MixedBlocksModel" "thrown" "I") (List.mem_of_getElem? (i := 1) rfl)) (fun _ h9 => h9) rfl (by decide +kernel) rfl rfl (Nat.le_of_ble_eq_true rfl) dX6_digest_2 (moF E g 0 (mdE nb va se rv) aa sv ke tx ln ro ai wr dg) rfl mo_ne0 (fun H_1 locs_1 hP hS => ?_)
  refine lv_aload_n hx hb dX6_digest_5 rfl (lv_at hl 0 rfl) ?_
  refine lv_ldc2 hx hb hown (hts (.constantLong RX6 196 (3253)) (List.mem_of_getElem? (i := 2) rfl)) dX6_digest_6 ?_
  refine w_put (C := RX6) (T := TX6) (N := 11) (ci := 6) (v := .long 3253) (ty := .long) hx hb hts hin6 tyX6 tyX6_ok nmX6 hown hK hP hI hA hS 0 (by decide) rfl rfl 10 (by decide) (hts (.fieldLink RX6 184 "MixedBlocksModel" "digested" "J") (List.mem_of_getElem? (i := 3) rfl)) (fun _ h9 => h9) rfl (by decide +kernel) rfl rfl (Nat.le_of_ble_eq_true rfl) dX6_digest_9 (moF E g 0 (mdE nb va se rv) aa sv ke tx ln ro ai wr 3253) rfl mo_ne0 (fun H_2 locs_2 hP hS => ?_)
  refine lv_iconst (v := 0) hx hb dX6_digest_12 (by decide) ?_
  refine lv_istore_n (lv' := [(1, .int 0), (0, .ref ((g 0)))]) hx hb dX6_digest_13 rfl hl (by decide) rfl (fun ls hl => ?_)
  have L14 : ∀ (k : Nat) (j : Nat) (dv2 : Int64) (aa2 ro2 : Nat → Int32) (rv2 : Nat → Nat → Int32) (H : Heap) (locs : List Loc) (ls : Array Slot), j + k = 6 → hsN (fun j => ctM nb va se rc ke j) k j dv2 = dmA nb va se rc ke → (∀ j9, j9 < 3 → rvP (rc j9) (rv2 j9)) → wP E 6 g (moF E g 0 (mdE nb va se rv2) aa2 sv ke tx ln ro2 ai wr dv2) H → va_S (wF 6 g) s.heap H locs → lv_has ls 2 [(1, .int (nI j)), (0, .ref ((g 0)))] → W p l e (headSpec wsX6_digest ({ frames := 7, cells := 0, slots := 0, locals := 163 })).room s m ([.ref ((g 0))] : List Value).toArray below meth c H locs 0 0 (MQ below (va_Ql (fun (r : Int64) (_ : Unit) => r = dmF nb va se rc ke ln tx) (fun _ t => MOB E g 0 ln tx nb va se rc ke hs (t.heap)) (wF 6 g)) ([.ref ((g 0))] : List Value).toArray s 0 0 (wF 6 g)) (F0 m 14 ls []) := by
    intro k
    induction k with
    | zero =>
      intro j dv2 aa2 ro2 rv2 H locs ls hi hres hrv2 hP hS hl
      refine lv_iload_n hx hb dX6_digest_14 rfl (lv_at hl 0 rfl) ?_
      refine lv_bipush (v := 6) hx hb dX6_digest_15 (by decide) ?_
      refine lv_icmp_ge (tgt := 36) hx hb dX6_digest_17 (by decide) (fun c_3 => ?_) (fun c_3 => ?_)
      · have n_3 : 6 ≤ j := (nI_leI (a := 6) (b := j) (by omega) (by omega)).mp c_3
        refine lv_iconst (v := 0) hx hb dX6_digest_36 (by decide) ?_
        refine lv_istore_n (lv' := [(1, .int 0), (0, .ref ((g 0)))]) hx hb dX6_digest_37 rfl hl (by decide) rfl (fun ls hl => ?_)
        have hres2 : dv2 = dmA nb va se rc ke := hres
        have L38 : ∀ (k2 : Nat) (j2 : Nat) (dv3 : Int64) (aa3 ro3 : Nat → Int32) (rv3 : Nat → Nat → Int32) (H : Heap) (locs : List Loc) (ls : Array Slot), j2 + k2 = nb → hsN va k2 j2 dv3 = dmB nb va se rc ke → (∀ j9, j9 < 3 → rvP (rc j9) (rv3 j9)) → wP E 6 g (moF E g 0 (mdE nb va se rv3) aa3 sv ke tx ln ro3 ai wr dv3) H → va_S (wF 6 g) s.heap H locs → lv_has ls 2 [(1, .int (nI j2)), (0, .ref ((g 0)))] → W p l e (headSpec wsX6_digest ({ frames := 7, cells := 0, slots := 0, locals := 163 })).room s m ([.ref ((g 0))] : List Value).toArray below meth c H locs 0 0 (MQ below (va_Ql (fun (r : Int64) (_ : Unit) => r = dmF nb va se rc ke ln tx) (fun _ t => MOB E g 0 ln tx nb va se rc ke hs (t.heap)) (wF 6 g)) ([.ref ((g 0))] : List Value).toArray s 0 0 (wF 6 g)) (F0 m 38 ls []) := by
          intro k2
          induction k2 with
          | zero =>
            intro j2 dv3 aa3 ro3 rv3 H locs ls hi2 hres3 hrv3 hP hS hl
            refine lv_iload_n hx hb dX6_digest_38 rfl (lv_at hl 0 rfl) ?_
            refine lv_aload_n hx hb dX6_digest_39 rfl (lv_at hl 1 rfl) ?_
            refine w_get (C := RX6) (T := TX6) (N := 11) (ci := 6) (v := .ref ((g 1))) hx hb hts hin6 hown hK hP 0 (by decide) rfl rfl 1 (by decide) (hts (.fieldLink RX6 7 "MixedBlocksModel" "s" "[I") (List.mem_of_getElem? (i := 4) rfl)) (fun _ h9 => h9) rfl dX6_digest_40 ?_
            refine lv_iconst (v := 0) hx hb dX6_digest_43 (by decide) ?_
            refine w_iald hx hb hK hP 1 (by decide) rfl (vp_in_nI (n := 0) (by decide) (by decide)) dX6_digest_44 ?_
            rw [mdE_0]
            refine lv_icmp_ge (tgt := 67) hx hb dX6_digest_45 (by decide) (fun c_4 => ?_) (fun c_4 => ?_)
            · have n_4 : nb ≤ j2 := (nI_leI (a := nb) (b := j2) (by omega) (by omega)).mp c_4
              refine lv_iconst (v := 0) hx hb dX6_digest_67 (by decide) ?_
              refine lv_istore_n (lv' := [(1, .int 0), (0, .ref ((g 0)))]) hx hb dX6_digest_68 rfl hl (by decide) rfl (fun ls hl => ?_)
              have hres5 : dv3 = dmB nb va se rc ke := hres3
              have L69 : ∀ (k3 : Nat) (i : Nat) (dv4 : Int64) (aa4 ro4 : Nat → Int32) (rv4 : Nat → Nat → Int32) (H : Heap) (locs : List Loc) (ls : Array Slot), i + k3 = 3 → rcN (fun i h => drM nb va (rc i) h) k3 i dv4 = dmC nb va se rc ke → (∀ j9, j9 < 3 → rvP (rc j9) (rv4 j9)) → wP E 6 g (moF E g 0 (mdE nb va se rv4) aa4 sv ke tx ln ro4 ai wr dv4) H → va_S (wF 6 g) s.heap H locs → lv_has ls 2 [(1, .int (nI i)), (0, .ref ((g 0)))] → W p l e (headSpec wsX6_digest ({ frames := 7, cells := 0, slots := 0, locals := 163 })).room s m ([.ref ((g 0))] : List Value).toArray below meth c H locs 0 0 (MQ below (va_Ql (fun (r : Int64) (_ : Unit) => r = dmF nb va se rc ke ln tx) (fun _ t => MOB E g 0 ln tx nb va se rc ke hs (t.heap)) (wF 6 g)) ([.ref ((g 0))] : List Value).toArray s 0 0 (wF 6 g)) (F0 m 69 ls []) := by
                intro k3
                induction k3 with
                | zero =>
                  intro i dv4 aa4 ro4 rv4 H locs ls hi3 hres6 hrv4 hP hS hl
                  refine lv_iload_n hx hb dX6_digest_69 rfl (lv_at hl 0 rfl) ?_
                  refine lv_iconst (v := 3) hx hb dX6_digest_70 (by decide) ?_
                  refine lv_icmp_ge (tgt := 85) hx hb dX6_digest_71 (by decide) (fun c_5 => ?_) (fun c_5 => ?_)
                  · have n_5 : 3 ≤ i := (nI_leI (a := 3) (b := i) (by omega) (by omega)).mp c_5
                    have hres8 : dv4 = dmC nb va se rc ke := hres6
                    rw [hres8] at hP
                    refine lv_aload_n hx hb dX6_digest_85 rfl (lv_at hl 1 rfl) ?_
                    refine lv_aload_n hx hb dX6_digest_86 rfl (lv_at hl 1 rfl) ?_
                    refine w_get (C := RX6) (T := TX6) (N := 11) (ci := 6) (v := .int (nI ln)) hx hb hts hin6 hown hK hP 0 (by decide) rfl rfl 6 (by decide) (hts (.fieldLink RX6 106 "MixedBlocksModel" "length" "I") (List.mem_of_getElem? (i := 5) rfl)) (fun _ h9 => h9) rfl dX6_digest_87 ?_
                    refine lv_i2l (v := (nI ln).toInt64) hx hb dX6_digest_90 rfl ?_
                    refine va_callv (va_runV (As := [.long ((nI ln).toInt64)]) (rest := []) ⟨hx, hb, hml, hown, hts⟩ (c_X6_digestOne l E g (mdE nb va se rv4) 0 aa4 sv ke tx ln ro4 ai wr (dmC nb va se rc ke) ((nI ln).toInt64)) (cwV 1 hts gX6_digest_X6_digestOne rfl rfl rfl (by decide +kernel) ⟨Nat.le_of_ble_eq_true rfl, Nat.le_of_ble_eq_true rfl⟩) ⟨wS.blind, (w_recv hK hP 0 (by decide) rfl (ci := 6) rfl), fun U hU hW => wS.go hP hK hI hU hW⟩ rfl rfl hl.1 rfl (lv_room (Nat.le_of_ble_eq_true rfl)) dX6_digest_91 ⟨Nat.zero_le _, Nat.zero_le _⟩) hS (fun q _ h => h) (fun q h => h) (fun uu t H_6 locs_6 ht hvm hw hB hz1 hk1 hS => ?_)
                    rw [ht] at hB
                    have hP : wP E 6 g (moF E g 0 (mdE nb va se rv4) aa4 sv ke tx ln ro4 ai wr (31 * (dmC nb va se rc ke) + ((nI ln).toInt64))) H_6 := hB
                    refine lv_iconst (v := 0) hx hb dX6_digest_94 (by decide) ?_
                    refine lv_istore_n (lv' := [(1, .int 0), (0, .ref ((g 0)))]) hx hb dX6_digest_95 rfl hl (by decide) rfl (fun ls hl => ?_)
                    have L96 : ∀ (k4 : Nat) (j4 : Nat) (dv5 : Int64) (H : Heap) (locs : List Loc) (ls : Array Slot), j4 + k4 = ln → hsN tx k4 j4 dv5 = dmF nb va se rc ke ln tx → wP E 6 g (moF E g 0 (mdE nb va se rv4) aa4 sv ke tx ln ro4 ai wr dv5) H → va_S (wF 6 g) s.heap H locs → lv_has ls 2 [(1, .int (nI j4)), (0, .ref ((g 0)))] → W p l e (headSpec wsX6_digest ({ frames := 7, cells := 0, slots := 0, locals := 163 })).room s m ([.ref ((g 0))] : List Value).toArray below meth c H locs 0 0 (MQ below (va_Ql (fun (r : Int64) (_ : Unit) => r = dmF nb va se rc ke ln tx) (fun _ t => MOB E g 0 ln tx nb va se rc ke hs (t.heap)) (wF 6 g)) ([.ref ((g 0))] : List Value).toArray s 0 0 (wF 6 g)) (F0 m 96 ls []) := by
                      intro k4
                      induction k4 with
                      | zero =>
                        intro j4 dv5 H locs ls hi4 hres10 hP hS hl
                        refine lv_iload_n hx hb dX6_digest_96 rfl (lv_at hl 0 rfl) ?_
                        refine lv_aload_n hx hb dX6_digest_97 rfl (lv_at hl 1 rfl) ?_
                        refine w_get (C := RX6) (T := TX6) (N := 11) (ci := 6) (v := .int (nI ln)) hx hb hts hin6 hown hK hP 0 (by decide) rfl rfl 6 (by decide) (hts (.fieldLink RX6 106 "MixedBlocksModel" "length" "I") (List.mem_of_getElem? (i := 5) rfl)) (fun _ h9 => h9) rfl dX6_digest_98 ?_
                        refine lv_icmp_ge (tgt := 121) hx hb dX6_digest_101 (by decide) (fun c_7 => ?_) (fun c_7 => ?_)
                        · have n_7 : ln ≤ j4 := (nI_leI (a := ln) (b := j4) (by omega) (by omega)).mp c_7
                          refine lv_aload_n hx hb dX6_digest_121 rfl (lv_at hl 1 rfl) ?_
                          refine w_get (C := RX6) (T := TX6) (N := 11) (ci := 6) (v := .long dv5) hx hb hts hin6 hown hK hP 0 (by decide) rfl rfl 10 (by decide) (hts (.fieldLink RX6 184 "MixedBlocksModel" "digested" "J") (List.mem_of_getElem? (i := 3) rfl)) (fun _ h9 => h9) rfl dX6_digest_122 ?_
                          exact W.lret (v := dv5) hx hb hr (fun t ht hW => ⟨⟨_, (), rfl, (by show dv5 = _; exact hres10), (by show MOB E g 0 ln tx nb va se rc ke hs (t.heap); rw [ht]; exact ⟨sv, _, _, _, ⟨_, _, _, hP, hrv4⟩, hsv, hke, hln, hnb2, hnb⟩)⟩, hS.F ht⟩) hS.2.2 dX6_digest_125
                        · have n_7 : ¬ (ln ≤ j4) := fun z => c_7 ((nI_leI (a := ln) (b := j4) (by omega) (by omega)).mpr z)
                          exfalso
                          omega
                      | succ k4 ihk4 =>
                        intro j4 dv5 H locs ls hi4 hres10 hP hS hl
                        refine lv_iload_n hx hb dX6_digest_96 rfl (lv_at hl 0 rfl) ?_
                        refine lv_aload_n hx hb dX6_digest_97 rfl (lv_at hl 1 rfl) ?_
                        refine w_get (C := RX6) (T := TX6) (N := 11) (ci := 6) (v := .int (nI ln)) hx hb hts hin6 hown hK hP 0 (by decide) rfl rfl 6 (by decide) (hts (.fieldLink RX6 106 "MixedBlocksModel" "length" "I") (List.mem_of_getElem? (i := 5) rfl)) (fun _ h9 => h9) rfl dX6_digest_98 ?_
                        refine lv_icmp_ge (tgt := 121) hx hb dX6_digest_101 (by decide) (fun c_8 => ?_) (fun c_8 => ?_)
                        · have n_8 : ln ≤ j4 := (nI_leI (a := ln) (b := j4) (by omega) (by omega)).mp c_8
                          exfalso
                          omega
                        · have n_8 : ¬ (ln ≤ j4) := fun z => c_8 ((nI_leI (a := ln) (b := j4) (by omega) (by omega)).mpr z)
                          refine lv_aload_n hx hb dX6_digest_104 rfl (lv_at hl 1 rfl) ?_
                          refine lv_aload_n hx hb dX6_digest_105 rfl (lv_at hl 1 rfl) ?_
                          refine w_get (C := RX6) (T := TX6) (N := 11) (ci := 6) (v := .ref ((g 4))) hx hb hts hin6 hown hK hP 0 (by decide) rfl rfl 5 (by decide) (hts (.fieldLink RX6 19 "MixedBlocksModel" "text" "[I") (List.mem_of_getElem? (i := 6) rfl)) (fun _ h9 => h9) rfl dX6_digest_106 ?_
                          refine lv_iload_n hx hb dX6_digest_109 rfl (lv_at hl 0 rfl) ?_
                          refine w_iald hx hb hK hP 4 (by decide) rfl (vp_in_nI (by omega) (by decide)) dX6_digest_110 ?_
                          rw [nI_clamp (by omega)]
                          refine lv_i2l (v := (tx j4).toInt64) hx hb dX6_digest_111 rfl ?_
                          refine va_callv (va_runV (As := [.long ((tx j4).toInt64)]) (rest := []) ⟨hx, hb, hml, hown, hts⟩ (c_X6_digestOne l E g (mdE nb va se rv4) 0 aa4 sv ke tx ln ro4 ai wr dv5 ((tx j4).toInt64)) (cwV 1 hts gX6_digest_X6_digestOne rfl rfl rfl (by decide +kernel) ⟨Nat.le_of_ble_eq_true rfl, Nat.le_of_ble_eq_true rfl⟩) ⟨wS.blind, (w_recv hK hP 0 (by decide) rfl (ci := 6) rfl), fun U hU hW => wS.go hP hK hI hU hW⟩ rfl rfl hl.1 rfl (lv_room (Nat.le_of_ble_eq_true rfl)) dX6_digest_112 ⟨Nat.zero_le _, Nat.zero_le _⟩) hS (fun q _ h => h) (fun q h => h) (fun uu t H_9 locs_9 ht hvm hw hB hz1 hk1 hS => ?_)
                          rw [ht] at hB
                          have hP : wP E 6 g (moF E g 0 (mdE nb va se rv4) aa4 sv ke tx ln ro4 ai wr (31 * dv5 + ((tx j4).toInt64))) H_9 := hB
                          refine lv_iinc (v := (nI (j4 + 1))) (lv' := [(1, .int (nI (j4 + 1))), (0, .ref ((g 0)))]) hx hb dX6_digest_115 hl (k := 0) rfl (nI_1 _) (by decide) rfl (fun ls hl => ?_)
                          refine lv_goto (tgt := 96) hx hb dX6_digest_118 (by decide) ?_
                          have hres9 : hsN tx k4 (j4 + 1) (31 * dv5 + ((tx j4).toInt64)) = dmF nb va se rc ke ln tx := by rw [← hres10]; rfl
                          exact ihk4 (j4 + 1) (31 * dv5 + ((tx j4).toInt64)) _ _ ls (by omega) hres9 hP hS (lv_sub hl [0, 1] rfl)
                    exact L96 ln 0 (31 * (dmC nb va se rc ke) + ((nI ln).toInt64)) _ _ ls (by omega) rfl hP hS (lv_sub hl [0, 1] rfl)
                  · have n_5 : ¬ (3 ≤ i) := fun z => c_5 ((nI_leI (a := 3) (b := i) (by omega) (by omega)).mpr z)
                    exfalso
                    omega
                | succ k3 ihk3 =>
                  intro i dv4 aa4 ro4 rv4 H locs ls hi3 hres6 hrv4 hP hS hl
                  refine lv_iload_n hx hb dX6_digest_69 rfl (lv_at hl 0 rfl) ?_
                  refine lv_iconst (v := 3) hx hb dX6_digest_70 (by decide) ?_
                  refine lv_icmp_ge (tgt := 85) hx hb dX6_digest_71 (by decide) (fun c_10 => ?_) (fun c_10 => ?_)
                  · have n_10 : 3 ≤ i := (nI_leI (a := 3) (b := i) (by omega) (by omega)).mp c_10
                    exfalso
                    omega
                  · have n_10 : ¬ (3 ≤ i) := fun z => c_10 ((nI_leI (a := 3) (b := i) (by omega) (by omega)).mpr z)
                    refine lv_aload_n hx hb dX6_digest_74 rfl (lv_at hl 1 rfl) ?_
                    refine lv_iload_n hx hb dX6_digest_75 rfl (lv_at hl 0 rfl) ?_
                    refine va_callv (va_runV (As := [.int (nI i)]) (rest := []) ⟨hx, hb, hml, hown, hts⟩ (c_X6_digestReceiver l E g 0 sv ke tx ln ai wr dv4 nb va se rc i (by omega) hnb2 hnb (hbo i (by omega))) (cwV 1 hts gX6_digest_X6_digestReceiver rfl rfl rfl (by decide +kernel) ⟨Nat.le_of_ble_eq_true rfl, Nat.le_of_ble_eq_true rfl⟩) ⟨wS.blind, (w_recv hK hP 0 (by decide) rfl (ci := 6) rfl), fun U hU hW => wS.go ⟨_, _, _, hP, hrv4⟩ hK hI hU hW⟩ rfl rfl hl.1 rfl (lv_room (Nat.le_of_ble_eq_true rfl)) dX6_digest_76 ⟨Nat.zero_le _, Nat.zero_le _⟩) hS (fun q _ h => h) (fun q h => h) (fun uu t H_11 locs_11 ht hvm hw hB hz1 hk1 hS => ?_)
                    rw [ht] at hB
                    obtain ⟨aa_11, ro_11, rv_11, hP, hrv_11⟩ := hB
                    have hP : wP E 6 g (moF E g 0 (mdE nb va se rv_11) aa_11 sv ke tx ln ro_11 ai wr (drM nb va (rc i) dv4)) H_11 := hP
                    refine lv_iinc (v := (nI (i + 1))) (lv' := [(1, .int (nI (i + 1))), (0, .ref ((g 0)))]) hx hb dX6_digest_79 hl (k := 0) rfl (nI_1 _) (by decide) rfl (fun ls hl => ?_)
                    refine lv_goto (tgt := 69) hx hb dX6_digest_82 (by decide) ?_
                    have hres9 : rcN (fun i h => drM nb va (rc i) h) k3 (i + 1) (drM nb va (rc i) dv4) = dmC nb va se rc ke := by rw [← hres6]; rfl
                    exact ihk3 (i + 1) (drM nb va (rc i) dv4) aa_11 ro_11 rv_11 _ _ ls (by omega) hres9 hrv_11 hP hS (lv_sub hl [0, 1] rfl)
              exact L69 3 0 dv3 aa3 ro3 rv3 _ _ ls rfl (by rw [hres5]; rfl) hrv3 hP hS (lv_sub hl [0, 1] rfl)
            · have n_4 : ¬ (nb ≤ j2) := fun z => c_4 ((nI_leI (a := nb) (b := j2) (by omega) (by omega)).mpr z)
              exfalso
              omega
          | succ k2 ihk2 =>
            intro j2 dv3 aa3 ro3 rv3 H locs ls hi2 hres3 hrv3 hP hS hl
            refine lv_iload_n hx hb dX6_digest_38 rfl (lv_at hl 0 rfl) ?_
            refine lv_aload_n hx hb dX6_digest_39 rfl (lv_at hl 1 rfl) ?_
            refine w_get (C := RX6) (T := TX6) (N := 11) (ci := 6) (v := .ref ((g 1))) hx hb hts hin6 hown hK hP 0 (by decide) rfl rfl 1 (by decide) (hts (.fieldLink RX6 7 "MixedBlocksModel" "s" "[I") (List.mem_of_getElem? (i := 4) rfl)) (fun _ h9 => h9) rfl dX6_digest_40 ?_
            refine lv_iconst (v := 0) hx hb dX6_digest_43 (by decide) ?_
            refine w_iald hx hb hK hP 1 (by decide) rfl (vp_in_nI (n := 0) (by decide) (by decide)) dX6_digest_44 ?_
            rw [mdE_0]
            refine lv_icmp_ge (tgt := 67) hx hb dX6_digest_45 (by decide) (fun c_12 => ?_) (fun c_12 => ?_)
            · have n_12 : nb ≤ j2 := (nI_leI (a := nb) (b := j2) (by omega) (by omega)).mp c_12
              exfalso
              omega
            · have n_12 : ¬ (nb ≤ j2) := fun z => c_12 ((nI_leI (a := nb) (b := j2) (by omega) (by omega)).mpr z)
              refine lv_aload_n hx hb dX6_digest_48 rfl (lv_at hl 1 rfl) ?_
              refine lv_aload_n hx hb dX6_digest_49 rfl (lv_at hl 1 rfl) ?_
              refine w_get (C := RX6) (T := TX6) (N := 11) (ci := 6) (v := .ref ((g 1))) hx hb hts hin6 hown hK hP 0 (by decide) rfl rfl 1 (by decide) (hts (.fieldLink RX6 7 "MixedBlocksModel" "s" "[I") (List.mem_of_getElem? (i := 4) rfl)) (fun _ h9 => h9) rfl dX6_digest_50 ?_
              refine lv_iconst (v := 2) hx hb dX6_digest_53 (by decide) ?_
              refine lv_iload_n hx hb dX6_digest_54 rfl (lv_at hl 0 rfl) ?_
              refine lv_iadd hx hb dX6_digest_55 ?_
              rw [show 2 + (nI j2) = nI (2 + j2) from nI_add 2 j2]
              refine w_iald hx hb hK hP 1 (by decide) rfl (vp_in_nI (by omega) (by decide)) dX6_digest_56 ?_
              rw [nI_clamp (by omega), mdE_v (by omega)]
              refine lv_i2l (v := (va j2).toInt64) hx hb dX6_digest_57 rfl ?_
              refine va_callv (va_runV (As := [.long ((va j2).toInt64)]) (rest := []) ⟨hx, hb, hml, hown, hts⟩ (c_X6_digestOne l E g (mdE nb va se rv3) 0 aa3 sv ke tx ln ro3 ai wr dv3 ((va j2).toInt64)) (cwV 1 hts gX6_digest_X6_digestOne rfl rfl rfl (by decide +kernel) ⟨Nat.le_of_ble_eq_true rfl, Nat.le_of_ble_eq_true rfl⟩) ⟨wS.blind, (w_recv hK hP 0 (by decide) rfl (ci := 6) rfl), fun U hU hW => wS.go hP hK hI hU hW⟩ rfl rfl hl.1 rfl (lv_room (Nat.le_of_ble_eq_true rfl)) dX6_digest_58 ⟨Nat.zero_le _, Nat.zero_le _⟩) hS (fun q _ h => h) (fun q h => h) (fun uu t H_13 locs_13 ht hvm hw hB hz1 hk1 hS => ?_)
              rw [ht] at hB
              have hP : wP E 6 g (moF E g 0 (mdE nb va se rv3) aa3 sv ke tx ln ro3 ai wr (31 * dv3 + ((va j2).toInt64))) H_13 := hB
              refine lv_iinc (v := (nI (j2 + 1))) (lv' := [(1, .int (nI (j2 + 1))), (0, .ref ((g 0)))]) hx hb dX6_digest_61 hl (k := 0) rfl (nI_1 _) (by decide) rfl (fun ls hl => ?_)
              refine lv_goto (tgt := 38) hx hb dX6_digest_64 (by decide) ?_
              have hres9 : hsN va k2 (j2 + 1) (31 * dv3 + ((va j2).toInt64)) = dmB nb va se rc ke := by rw [← hres3]; rfl
              exact ihk2 (j2 + 1) (31 * dv3 + ((va j2).toInt64)) aa3 ro3 rv3 _ _ ls (by omega) hres9 hrv3 hP hS (lv_sub hl [0, 1] rfl)
        exact L38 nb 0 dv2 aa2 ro2 rv2 _ _ ls (by omega) (by rw [hres2]; rfl) hrv2 hP hS (lv_sub hl [0, 1] rfl)
      · have n_3 : ¬ (6 ≤ j) := fun z => c_3 ((nI_leI (a := 6) (b := j) (by omega) (by omega)).mpr z)
        exfalso
        omega
    | succ k ihk =>
      intro j dv2 aa2 ro2 rv2 H locs ls hi hres hrv2 hP hS hl
      refine lv_iload_n hx hb dX6_digest_14 rfl (lv_at hl 0 rfl) ?_
      refine lv_bipush (v := 6) hx hb dX6_digest_15 (by decide) ?_
      refine lv_icmp_ge (tgt := 36) hx hb dX6_digest_17 (by decide) (fun c_14 => ?_) (fun c_14 => ?_)
      · have n_14 : 6 ≤ j := (nI_leI (a := 6) (b := j) (by omega) (by omega)).mp c_14
        exfalso
        omega
      · have n_14 : ¬ (6 ≤ j) := fun z => c_14 ((nI_leI (a := 6) (b := j) (by omega) (by omega)).mpr z)
        refine lv_aload_n hx hb dX6_digest_20 rfl (lv_at hl 1 rfl) ?_
        refine lv_aload_n hx hb dX6_digest_21 rfl (lv_at hl 1 rfl) ?_
        refine lv_iload_n hx hb dX6_digest_22 rfl (lv_at hl 0 rfl) ?_
        refine va_calli (va_runV (As := [.int (nI j)]) (rest := [.ref ((g 0))]) ⟨hx, hb, hml, hown, hts⟩ (c_X6_counted l E g 0 sv ke tx ln ai wr dv2 nb va se rc j (by omega) hnb) (cwV 1 hts gX6_digest_X6_counted rfl rfl rfl (by decide +kernel) ⟨Nat.le_of_ble_eq_true rfl, Nat.le_of_ble_eq_true rfl⟩) ⟨wS.blind, (w_recv hK hP 0 (by decide) rfl (ci := 6) rfl), fun U hU hW => wS.go ⟨_, _, _, hP, hrv2⟩ hK hI hU hW⟩ rfl rfl hl.1 rfl (lv_room (Nat.le_of_ble_eq_true rfl)) dX6_digest_23 ⟨Nat.zero_le _, Nat.zero_le _⟩) hS (fun q _ h => h) (fun q h => h) (fun r_15 uu t H_15 locs_15 ht hvm hw hB hz1 hk1 hS => ?_)
        rw [ht] at hB
        obtain ⟨aa_15, ro_15, rv_15, hP, hrv_15⟩ := hB
        have hP : wP E 6 g (moF E g 0 (mdE nb va se rv_15) aa_15 sv ke tx ln ro_15 ai wr dv2) H_15 := hP
        obtain rfl : r_15 = (ctM nb va se rc ke j) := hw
        refine lv_i2l (v := (ctM nb va se rc ke j).toInt64) hx hb dX6_digest_26 rfl ?_
        refine va_callv (va_runV (As := [.long ((ctM nb va se rc ke j).toInt64)]) (rest := []) ⟨hx, hb, hml, hown, hts⟩ (c_X6_digestOne l E g (mdE nb va se rv_15) 0 aa_15 sv ke tx ln ro_15 ai wr dv2 ((ctM nb va se rc ke j).toInt64)) (cwV 1 hts gX6_digest_X6_digestOne rfl rfl rfl (by decide +kernel) ⟨Nat.le_of_ble_eq_true rfl, Nat.le_of_ble_eq_true rfl⟩) ⟨wS.blind, (w_recv hK hP 0 (by decide) rfl (ci := 6) rfl), fun U hU hW => wS.go hP hK hI hU hW⟩ rfl rfl hl.1 rfl (lv_room (Nat.le_of_ble_eq_true rfl)) dX6_digest_27 ⟨Nat.zero_le _, Nat.zero_le _⟩) hS (fun q _ h => h) (fun q h => h) (fun uu t H_16 locs_16 ht hvm hw hB hz1 hk1 hS => ?_)
        rw [ht] at hB
        have hP : wP E 6 g (moF E g 0 (mdE nb va se rv_15) aa_15 sv ke tx ln ro_15 ai wr (31 * dv2 + ((ctM nb va se rc ke j).toInt64))) H_16 := hB
        refine lv_iinc (v := (nI (j + 1))) (lv' := [(1, .int (nI (j + 1))), (0, .ref ((g 0)))]) hx hb dX6_digest_30 hl (k := 0) rfl (nI_1 _) (by decide) rfl (fun ls hl => ?_)
        refine lv_goto (tgt := 14) hx hb dX6_digest_33 (by decide) ?_
        have hres9 : hsN (fun j => ctM nb va se rc ke j) k (j + 1) (31 * dv2 + ((ctM nb va se rc ke j).toInt64)) = dmA nb va se rc ke := by rw [← hres]; rfl
        exact ihk (j + 1) (31 * dv2 + ((ctM nb va se rc ke j).toInt64)) aa_15 ro_15 rv_15 _ _ ls (by omega) hres9 hrv_15 hP hS (lv_sub hl [0, 1] rfl)
  exact L14 6 0 3253 aa ro rv _ _ ls rfl rfl hrv hP hS (lv_sub hl [0, 1] rfl)
set_option maxHeartbeats 4000000 in
set_option maxRecDepth 100000 in
theorem c_X6_thrown_ok (l : Launch) (E : wE) (g : Nat → Nat) (th : Int32) (ln : Nat) (tx : Nat → Int32) (nb : Nat) (va : Nat → Int32) (se : Int32) (rc : Nat → MR) (ke : Nat) (hs : Nat → MS)  : Met l yX6_thrown wsX6_thrown ({ frames := 0, cells := 0, slots := 0, locals := 0 }) (va_Pc [.ref ((g 0))] (wS E 6 g (MOB E g th ln tx nb va se rc ke hs))) (va_Qi (fun (r : Int32) (_ : Unit) => r = th) (fun _ t => MOB E g th ln tx nb va se rc ke hs (t.heap)) (wF 6 g)) 0 0 (wF 6 g) := by
  refine Met.ofW (cc := cX6_thrown) (maxL := 1) (ret := (some .int)) (by decide) rfl ?_
  intro p e s m args below meth c s₁ B hml hv
  obtain ⟨rfl, ⟨sv, ai, wr, dg, ⟨aa, ro, rv, hP, hrv⟩, hsv, hke, hln, hnb2, hnb⟩, hK, hI⟩ := hv
  have hx := B.exec
  have hb := B.bytes
  have hr := B.returns
  have hts := atoms_spec (ws := wsX6_thrown) B.pre
  have hown : s.vm.findClass RX6 = some m.cls := findClass_of_methodNamed B.named
  have hlocks := B.notSynchronized
  have hS : va_S (wF 6 g) s.heap s.heap [] := va_S.rf
  have hin6 : ∀ w ∈ wsX60, w ∈ wsX6_thrown := by decide +kernel
  have hA : ∀ k, k < 6 → (wF 6 g) (g k) := wF_in
  have hl := lv_entry ([.ref ((g 0))]) (n := 1) (Nat.le_of_ble_eq_true rfl)
  rw [lg_entry_eq]
  generalize (lg_sl ([.ref ((g 0))]) ++ List.replicate (1 - (lg_sl ([.ref ((g 0))])).length) Slot.unset).toArray = ls at hl ⊢
  have hl : lv_has ls 1 [(0, .ref ((g 0)))] := hl
  have hbN := hnb
  refine lv_aload_n hx hb dX6_thrown_0 rfl (lv_at hl 0 rfl) ?_
  refine w_get (C := RX6) (T := TX6) (N := 11) (ci := 6) (v := .int th) hx hb hts hin6 hown hK hP 0 (by decide) rfl rfl 0 (by decide) (hts (.fieldLink RX6 25 "MixedBlocksModel" "thrown" "I") (List.mem_of_getElem? (i := 1) rfl)) (fun _ h9 => h9) rfl dX6_thrown_1 ?_
  exact W.iret (v := th) hx hb hr (fun t ht hW => ⟨⟨_, (), rfl, rfl, (by show MOB E g th ln tx nb va se rc ke hs (t.heap); rw [ht]; exact ⟨sv, _, _, _, ⟨_, _, _, hP, hrv⟩, hsv, hke, hln, hnb2, hnb⟩)⟩, hS.F ht⟩) hS.2.2 dX6_thrown_4
