set_option maxHeartbeats 4000000 in
set_option maxRecDepth 100000 in
theorem c_X5_hashedState (l : Launch) (E : wE) (g : Nat → Nat) (ln : Nat) (bf : Nat → Int32) (z : SS) (ke : Nat) (hs : Nat → SS) (i : Nat) (hi3 : i < 3) (h0 : Int64) : Met l yX5_hashedState wsX5_hashedState ({ frames := 6, cells := 0, slots := 0, locals := 129 }) (va_Pc [.ref ((g 0)), .long h0, .ref ((off g 8 (3 + 3 * i)))] (wS E 94 g (MB E g ln bf z ke hs))) (va_Ql (fun (r : Int64) (_ : Unit) => r = hstF z (z.2.2.2 i) h0) (fun _ t => MB E g ln bf z ke hs (t.heap)) (wF 94 g)) 0 0 (wF 94 g) := by
  refine Met.ofW (cc := cX5_hashedState) (maxL := 8) (ret := (some .long)) (by decide) rfl ?_
  intro p e s m args below meth c s₁ B hml hv
  obtain ⟨rfl, ⟨ol, zs, ⟨hol, hke, hzs, hln, hnb2, hnb⟩, hM, ⟨⟨pa, hPa⟩, ⟨el, hEl⟩, ⟨tli, tq, hTr⟩⟩, hN, hHi, hHs⟩, hK, hI⟩ := hv
  have hx := B.exec
  have hb := B.bytes
  have hr := B.returns
  have hts := atoms_spec (ws := wsX5_hashedState) B.pre
  have hown : s.vm.findClass RX5 = some m.cls := findClass_of_methodNamed B.named
  have hlocks := B.notSynchronized
  have hS : va_S (wF 94 g) s.heap s.heap [] := va_S.rf
  have hin3 : ∀ w ∈ wsX30, w ∈ wsX5_hashedState := by decide +kernel
  have hin4 : ∀ w ∈ wsX40, w ∈ wsX5_hashedState := by decide +kernel
  have hin5 : ∀ w ∈ wsX50, w ∈ wsX5_hashedState := by decide +kernel
  have hA : ∀ k, k < 94 → (wF 94 g) (g k) := wF_in
  have hl := lv_entry ([.ref ((g 0)), .long h0, .ref ((off g 8 (3 + 3 * i)))]) (n := 8) (Nat.le_of_ble_eq_true rfl)
  rw [lg_entry_eq]
  generalize (lg_sl ([.ref ((g 0)), .long h0, .ref ((off g 8 (3 + 3 * i)))]) ++ List.replicate (8 - (lg_sl ([.ref ((g 0)), .long h0, .ref ((off g 8 (3 + 3 * i)))])).length) Slot.unset).toArray = ls at hl ⊢
  have hl : lv_has ls 8 [(0, .ref ((g 0))), (1, .long h0), (3, .ref ((off g 8 (3 + 3 * i))))] := hl
  have hN : stP E (off g 8) z.1 z.2.1 z.2.2.1 z.2.2.2 s.heap := hN
  refine lv_lload_n hx hb dX5_hashedState_0 rfl (lv_at hl 1 rfl) ?_
  refine lv_lstore (lv' := [(4, .long h0), (0, .ref ((g 0))), (1, .long h0), (3, .ref ((off g 8 (3 + 3 * i))))]) hx hb dX5_hashedState_1 hl (by decide) rfl (fun ls hl => ?_)
  refine lv_iconst (v := 0) hx hb dX5_hashedState_3 (by decide) ?_
  refine lv_istore (lv' := [(6, .int 0), (4, .long h0), (0, .ref ((g 0))), (1, .long h0), (3, .ref ((off g 8 (3 + 3 * i))))]) hx hb dX5_hashedState_4 hl (by decide) rfl (fun ls hl => ?_)
  have L6 : ∀ (k : Nat) (j : Nat) (hv : Int64) (ol2 : Nat) (zs2 : Nat → SS) (pa2 : PA) (el2 : ES) (tli2 : Bool) (tq2 : RS) (H : Heap) (locs : List Loc) (ls : Array Slot), j + k = 9 → (ol2 < 6 ∧ ke ≤ 6 ∧ (∀ j, j < ke → zs2 ((ol2 + j) % 6) = hs j ∧ 2 ≤ (hs j).1 ∧ (hs j).1 ≤ 12) ∧ ln ≤ 60 ∧ 2 ≤ z.1 ∧ z.1 ≤ 12) → hsN (fun j => numF z.1 (z.2.2.2 i) j) k j hv = hsN (fun j => numF z.1 (z.2.2.2 i) j) 9 0 h0 → wP E 2 g (mbF E g ln bf) H → wP E 1 (off g 2) (paF pa2.1 pa2.2.1 pa2.2.2) H → wP E 2 (off g 3) (elF E (off g 3) el2.1 el2.2) H → rcT E (off g 5) tli2 tq2 H → stP E (off g 8) z.1 z.2.1 z.2.2.1 z.2.2.2 H → wP E 2 (off g 20) (hiF E (off g 20) ol2 ke) H → hiS E (off g 20) zs2 H → va_S (wF 94 g) s.heap H locs → lv_has ls 8 [(6, .int (nI j)), (4, .long hv), (0, .ref ((g 0))), (1, .long h0), (3, .ref ((off g 8 (3 + 3 * i))))] → W p l e (headSpec wsX5_hashedState ({ frames := 6, cells := 0, slots := 0, locals := 129 })).room s m ([.ref ((g 0)), .long h0, .ref ((off g 8 (3 + 3 * i)))] : List Value).toArray below meth c H locs 0 0 (MQ below (va_Ql (fun (r : Int64) (_ : Unit) => r = hstF z (z.2.2.2 i) h0) (fun _ t => MB E g ln bf z ke hs (t.heap)) (wF 94 g)) ([.ref ((g 0)), .long h0, .ref ((off g 8 (3 + 3 * i)))] : List Value).toArray s 0 0 (wF 94 g)) (F0 m 6 ls []) := by
    intro k
    induction k with
    | zero =>
      intro j hv ol2 zs2 pa2 el2 tli2 tq2 H locs ls hi hrg hres hM hPa hEl hTr hN hHi hHs hS hl
      refine lv_iload hx hb dX5_hashedState_6 (lv_at hl 0 rfl) ?_
      refine lv_bipush (v := 9) hx hb dX5_hashedState_8 (by decide) ?_
      refine lv_icmp_ge (tgt := 34) hx hb dX5_hashedState_10 (by decide) (fun c_1 => ?_) (fun c_1 => ?_)
      · have n_1 : 9 ≤ j := (nI_leI (a := 9) (b := j) (by omega) (by omega)).mp c_1
        refine lv_iconst (v := 0) hx hb dX5_hashedState_34 (by decide) ?_
        refine lv_istore (lv' := [(6, .int 0), (4, .long hv), (0, .ref ((g 0))), (1, .long h0), (3, .ref ((off g 8 (3 + 3 * i))))]) hx hb dX5_hashedState_35 hl (by decide) rfl (fun ls hl => ?_)
        have hres0 : hv = (hsN (fun j => numF z.1 (z.2.2.2 i) j) 9 0 h0) := hres
        have L37 : ∀ (k2 : Nat) (j2 : Nat) (hv2 : Int64) (H : Heap) (locs : List Loc) (ls : Array Slot), j2 + k2 = z.1 → hsN (fun b => knownF (z.2.2.2 i) b) k2 j2 hv2 = (hsN (fun b => knownF (z.2.2.2 i) b) z.1 0 (hsN (fun j => numF z.1 (z.2.2.2 i) j) 9 0 h0)) → wP E 2 g (mbF E g ln bf) H → wP E 1 (off g 2) (paF pa2.1 pa2.2.1 pa2.2.2) H → wP E 2 (off g 3) (elF E (off g 3) el2.1 el2.2) H → rcT E (off g 5) tli2 tq2 H → stP E (off g 8) z.1 z.2.1 z.2.2.1 z.2.2.2 H → wP E 2 (off g 20) (hiF E (off g 20) ol2 ke) H → hiS E (off g 20) zs2 H → va_S (wF 94 g) s.heap H locs → lv_has ls 8 [(6, .int (nI j2)), (4, .long hv2), (0, .ref ((g 0))), (1, .long h0), (3, .ref ((off g 8 (3 + 3 * i))))] → W p l e (headSpec wsX5_hashedState ({ frames := 6, cells := 0, slots := 0, locals := 129 })).room s m ([.ref ((g 0)), .long h0, .ref ((off g 8 (3 + 3 * i)))] : List Value).toArray below meth c H locs 0 0 (MQ below (va_Ql (fun (r : Int64) (_ : Unit) => r = hstF z (z.2.2.2 i) h0) (fun _ t => MB E g ln bf z ke hs (t.heap)) (wF 94 g)) ([.ref ((g 0)), .long h0, .ref ((off g 8 (3 + 3 * i)))] : List Value).toArray s 0 0 (wF 94 g)) (F0 m 37 ls []) := by
          intro k2
          induction k2 with
          | zero =>
            intro j2 hv2 H locs ls hi2 hres3 hM hPa hEl hTr hN hHi hHs hS hl
            refine lv_iload hx hb dX5_hashedState_37 (lv_at hl 0 rfl) ?_
            refine lv_aload_n hx hb dX5_hashedState_39 rfl (lv_at hl 2 rfl) ?_
            refine w_get (C := RX5) (T := TX5) (N := 7) (ci := 5) (v := .ref ((g 8))) hx hb hts hin5 hown hK hM 0 (by decide) rfl rfl 0 (by decide) (hts (.fieldLink RX5 12 "MixedBlocks" "now" "LMixedBlocks$State;") (List.mem_of_getElem? (i := 1) rfl)) (fun _ h9 => h9) rfl dX5_hashedState_40 ?_
            refine w_getN (C := RX4) (T := TX4) (N := 4) (ci := 4) (v := .int (nI z.1)) hx hb hts hin4 hown hK hN.1 0 (by decide) rfl rfl 0 (by decide) nf_X5_63 (fun _ h9 => h9) rfl dX5_hashedState_43 ?_
            refine lv_icmp_ge (tgt := 69) hx hb dX5_hashedState_46 (by decide) (fun c_2 => ?_) (fun c_2 => ?_)
            · have n_2 : z.1 ≤ j2 := (nI_leI (a := z.1) (b := j2) (by omega) (by omega)).mp c_2
              refine lv_iconst (v := 0) hx hb dX5_hashedState_69 (by decide) ?_
              refine lv_istore (lv' := [(6, .int 0), (4, .long hv2), (0, .ref ((g 0))), (1, .long h0), (3, .ref ((off g 8 (3 + 3 * i))))]) hx hb dX5_hashedState_70 hl (by decide) rfl (fun ls hl => ?_)
              have hres5 : hv2 = (hsN (fun b => knownF (z.2.2.2 i) b) z.1 0 (hsN (fun j => numF z.1 (z.2.2.2 i) j) 9 0 h0)) := hres3
              have hRi := hN.2 i (by omega)
              have hln24 : (z.2.2.2 i).2.2.2.1.length ≤ 24 := hRi.1
              have L72 : ∀ (k3 : Nat) (j3 : Nat) (hv3 : Int64) (H : Heap) (locs : List Loc) (ls : Array Slot), j3 + k3 = (z.2.2.2 i).2.2.2.1.length → hsW (z.2.2.2 i).2.2.2.1 k3 j3 hv3 = hstF z (z.2.2.2 i) h0 → wP E 2 g (mbF E g ln bf) H → wP E 1 (off g 2) (paF pa2.1 pa2.2.1 pa2.2.2) H → wP E 2 (off g 3) (elF E (off g 3) el2.1 el2.2) H → rcT E (off g 5) tli2 tq2 H → stP E (off g 8) z.1 z.2.1 z.2.2.1 z.2.2.2 H → wP E 2 (off g 20) (hiF E (off g 20) ol2 ke) H → hiS E (off g 20) zs2 H → va_S (wF 94 g) s.heap H locs → lv_has ls 8 [(6, .int (nI j3)), (4, .long hv3), (0, .ref ((g 0))), (1, .long h0), (3, .ref ((off g 8 (3 + 3 * i))))] → W p l e (headSpec wsX5_hashedState ({ frames := 6, cells := 0, slots := 0, locals := 129 })).room s m ([.ref ((g 0)), .long h0, .ref ((off g 8 (3 + 3 * i)))] : List Value).toArray below meth c H locs 0 0 (MQ below (va_Ql (fun (r : Int64) (_ : Unit) => r = hstF z (z.2.2.2 i) h0) (fun _ t => MB E g ln bf z ke hs (t.heap)) (wF 94 g)) ([.ref ((g 0)), .long h0, .ref ((off g 8 (3 + 3 * i)))] : List Value).toArray s 0 0 (wF 94 g)) (F0 m 72 ls []) := by
                intro k3
                induction k3 with
                | zero =>
                  intro j3 hv3 H locs ls hi3 hres6 hM hPa hEl hTr hN hHi hHs hS hl
                  refine lv_iload hx hb dX5_hashedState_72 (lv_at hl 0 rfl) ?_
                  have hRi := hN.2 i (by omega)
                  obtain ⟨hlnI, lfI, hlfI, hPI⟩ := id hRi
                  refine lv_aload_n hx hb dX5_hashedState_74 rfl (lv_at hl 4 rfl) ?_
                  refine w_getN (C := RX3) (T := TX3) (N := 8) (ci := 3) (v := .int (nI (z.2.2.2 i).2.2.2.1.length)) hx hb hts hin3 hown hK hPI 0 (by decide) rfl rfl 4 (by decide) nf_X5_165 (fun _ h9 => h9) rfl dX5_hashedState_75 ?_
                  refine lv_icmp_ge (tgt := 117) hx hb dX5_hashedState_78 (by decide) (fun c_3 => ?_) (fun c_3 => ?_)
                  · have n_3 : (z.2.2.2 i).2.2.2.1.length ≤ j3 := (nI_leI (a := (z.2.2.2 i).2.2.2.1.length) (b := j3) (by omega) (by omega)).mp c_3
                    refine lv_lload hx hb dX5_hashedState_117 (lv_at hl 1 rfl) ?_
                    exact W.lret (v := hv3) hx hb hr (fun t ht hW => ⟨⟨_, (), rfl, hres6, (by show MB E g ln bf z ke hs t.heap; rw [ht]; exact ⟨ol2, zs2, hrg, hM, ⟨⟨(pa2.1, pa2.2.1, pa2.2.2), hPa⟩, ⟨(el2.1, el2.2), hEl⟩, ⟨tli2, tq2, hTr⟩⟩, hN, hHi, hHs⟩)⟩, hS.F ht⟩) hS.2.2 dX5_hashedState_119
                  · have n_3 : ¬ (z.2.2.2 i).2.2.2.1.length ≤ j3 := fun z9 => c_3 ((nI_leI (a := (z.2.2.2 i).2.2.2.1.length) (b := j3) (by omega) (by omega)).mpr z9)
                    exfalso
                    omega
                | succ k3 ih =>
                  intro j3 hv3 H locs ls hi3 hres6 hM hPa hEl hTr hN hHi hHs hS hl
                  refine lv_iload hx hb dX5_hashedState_72 (lv_at hl 0 rfl) ?_
                  have hRi := hN.2 i (by omega)
                  obtain ⟨hlnI, lfI, hlfI, hPI⟩ := id hRi
                  refine lv_aload_n hx hb dX5_hashedState_74 rfl (lv_at hl 4 rfl) ?_
                  refine w_getN (C := RX3) (T := TX3) (N := 8) (ci := 3) (v := .int (nI (z.2.2.2 i).2.2.2.1.length)) hx hb hts hin3 hown hK hPI 0 (by decide) rfl rfl 4 (by decide) nf_X5_165 (fun _ h9 => h9) rfl dX5_hashedState_75 ?_
                  refine lv_icmp_ge (tgt := 117) hx hb dX5_hashedState_78 (by decide) (fun c_4 => ?_) (fun c_4 => ?_)
                  · have n_4 : (z.2.2.2 i).2.2.2.1.length ≤ j3 := (nI_leI (a := (z.2.2.2 i).2.2.2.1.length) (b := j3) (by omega) (by omega)).mp c_4
                    exfalso
                    omega
                  · have n_4 : ¬ (z.2.2.2 i).2.2.2.1.length ≤ j3 := fun z9 => c_4 ((nI_leI (a := (z.2.2.2 i).2.2.2.1.length) (b := j3) (by omega) (by omega)).mpr z9)
                    refine lv_aload_n hx hb dX5_hashedState_81 rfl (lv_at hl 4 rfl) ?_
                    refine lv_iload hx hb dX5_hashedState_82 (lv_at hl 0 rfl) ?_
                    refine va_calli (va_runV (As := [.int (nI j3)]) (rest := []) ⟨hx, hb, hml, hown, hts⟩ (c_X3_waitingAt l E (rg (off g 8) i) (z.2.2.2 i).1 (z.2.2.2 i).2.1 (z.2.2.2 i).2.2.1 (z.2.2.2 i).2.2.2.1 (z.2.2.2 i).2.2.2.2.1 (z.2.2.2 i).2.2.2.2.2.1 (z.2.2.2 i).2.2.2.2.2.2 j3 (by omega)) (cwV 1 hts gX5_hashedState_X3_waitingAt rfl rfl rfl (by decide +kernel) ⟨Nat.le_of_ble_eq_true rfl, Nat.le_of_ble_eq_true rfl⟩) ⟨wS.blind, (w_recv hK hPI 0 (by decide) rfl (ci := 3) rfl), fun U hU hW => wS.go hRi hK (rg_I (off_I hI (by decide)) (by omega)) hU hW⟩ rfl rfl hl.1 rfl (lv_room (Nat.le_of_ble_eq_true rfl)) dX5_hashedState_84 ⟨Nat.zero_le _, Nat.zero_le _⟩) hS (fun q _ h => h.elim) (fun q h => h.elim) (fun r_5 uu t H_5 locs_5 ht hvm hw hB hz1 hk1 hS => ?_)
                    have hM := hM.same hk1
                    have hPa := hPa.same hk1
                    have hEl := hEl.same hk1
                    have hTr := hTr.same hk1
                    have hN := hN.same hk1
                    have hHi := hHi.same hk1
                    have hHs := hHs.same hk1
                    obtain rfl : r_5 = ((z.2.2.2 i).2.2.2.1.getD j3 0) := hw
                    refine lv_istore (lv' := [(7, .int (((z.2.2.2 i).2.2.2.1.getD j3 0))), (6, .int (nI j3)), (4, .long hv3), (0, .ref ((g 0))), (1, .long h0), (3, .ref ((off g 8 (3 + 3 * i))))]) hx hb dX5_hashedState_87 hl (by decide) rfl (fun ls hl => ?_)
                    refine lv_lload hx hb dX5_hashedState_89 (lv_at hl 2 rfl) ?_
                    refine lv_iload hx hb dX5_hashedState_91 (lv_at hl 0 rfl) ?_
                    refine va_calli (va_runS (As := [.int (((z.2.2.2 i).2.2.2.1.getD j3 0))]) (rest := [.long hv3]) ⟨hx, hb, hml, hown, hts⟩ (c_X5_blocksOf l ((z.2.2.2 i).2.2.2.1.getD j3 0)) (va_cwS 1 hts gX5_hashedState_X5_blocksOf rfl rfl rfl (by decide +kernel) ⟨Nat.le_of_ble_eq_true rfl, Nat.le_of_ble_eq_true rfl⟩) ⟨wU_blind, fun U hU hW => ⟨rfl, trivial⟩⟩ rfl rfl hl.1 rfl (lv_room (Nat.le_of_ble_eq_true rfl)) dX5_hashedState_93 ⟨Nat.zero_le _, Nat.zero_le _⟩) hS (fun q _ h => h.elim) (fun q h => h.elim) (fun r_6 uu t H_6 locs_6 ht hvm hw hB hz1 hk1 hS => ?_)
                    have hM := hM.same hk1
                    have hPa := hPa.same hk1
                    have hEl := hEl.same hk1
                    have hTr := hTr.same hk1
                    have hN := hN.same hk1
                    have hHi := hHi.same hk1
                    have hHs := hHs.same hk1
                    obtain rfl : r_6 = (((z.2.2.2 i).2.2.2.1.getD j3 0) &&& 4095) := hw
                    refine lv_i2l (v := (((z.2.2.2 i).2.2.2.1.getD j3 0) &&& 4095).toInt64) hx hb dX5_hashedState_96 rfl ?_
                    refine va_calll (va_runS (As := [.long hv3, .long ((((z.2.2.2 i).2.2.2.1.getD j3 0) &&& 4095).toInt64)]) (rest := []) ⟨hx, hb, hml, hown, hts⟩ (c_X5_hashed l hv3 ((((z.2.2.2 i).2.2.2.1.getD j3 0) &&& 4095).toInt64)) (va_cwS 2 hts gX5_hashedState_X5_hashed rfl rfl rfl (by decide +kernel) ⟨Nat.le_of_ble_eq_true rfl, Nat.le_of_ble_eq_true rfl⟩) ⟨wU_blind, fun U hU hW => ⟨rfl, trivial⟩⟩ rfl rfl hl.1 rfl (lv_room (Nat.le_of_ble_eq_true rfl)) dX5_hashedState_97 ⟨Nat.zero_le _, Nat.zero_le _⟩) hS (fun q _ h => h.elim) (fun q h => h.elim) (fun r_7 uu t H_7 locs_7 ht hvm hw hB hz1 hk1 hS => ?_)
                    have hM := hM.same hk1
                    have hPa := hPa.same hk1
                    have hEl := hEl.same hk1
                    have hTr := hTr.same hk1
                    have hN := hN.same hk1
                    have hHi := hHi.same hk1
                    have hHs := hHs.same hk1
                    obtain rfl : r_7 = ((31 * hv3 + ((((z.2.2.2 i).2.2.2.1.getD j3 0) &&& 4095).toInt64))) := hw
                    refine lv_iload hx hb dX5_hashedState_100 (lv_at hl 0 rfl) ?_
                    refine va_calli (va_runS (As := [.int (((z.2.2.2 i).2.2.2.1.getD j3 0))]) (rest := [.long (((31 * hv3 + ((((z.2.2.2 i).2.2.2.1.getD j3 0) &&& 4095).toInt64))))]) ⟨hx, hb, hml, hown, hts⟩ (c_X5_valueOf l ((z.2.2.2 i).2.2.2.1.getD j3 0)) (va_cwS 1 hts gX5_hashedState_X5_valueOf rfl rfl rfl (by decide +kernel) ⟨Nat.le_of_ble_eq_true rfl, Nat.le_of_ble_eq_true rfl⟩) ⟨wU_blind, fun U hU hW => ⟨rfl, trivial⟩⟩ rfl rfl hl.1 rfl (lv_room (Nat.le_of_ble_eq_true rfl)) dX5_hashedState_102 ⟨Nat.zero_le _, Nat.zero_le _⟩) hS (fun q _ h => h.elim) (fun q h => h.elim) (fun r_8 uu t H_8 locs_8 ht hvm hw hB hz1 hk1 hS => ?_)
                    have hM := hM.same hk1
                    have hPa := hPa.same hk1
                    have hEl := hEl.same hk1
                    have hTr := hTr.same hk1
                    have hN := hN.same hk1
                    have hHi := hHi.same hk1
                    have hHs := hHs.same hk1
                    obtain rfl : r_8 = (((z.2.2.2 i).2.2.2.1.getD j3 0) >>> ((12 : Int32) &&& 31)) := hw
                    refine lv_i2l (v := (((z.2.2.2 i).2.2.2.1.getD j3 0) >>> ((12 : Int32) &&& 31)).toInt64) hx hb dX5_hashedState_105 rfl ?_
                    refine va_calll (va_runS (As := [.long (((31 * hv3 + ((((z.2.2.2 i).2.2.2.1.getD j3 0) &&& 4095).toInt64)))), .long ((((z.2.2.2 i).2.2.2.1.getD j3 0) >>> ((12 : Int32) &&& 31)).toInt64)]) (rest := []) ⟨hx, hb, hml, hown, hts⟩ (c_X5_hashed l ((31 * hv3 + ((((z.2.2.2 i).2.2.2.1.getD j3 0) &&& 4095).toInt64))) ((((z.2.2.2 i).2.2.2.1.getD j3 0) >>> ((12 : Int32) &&& 31)).toInt64)) (va_cwS 2 hts gX5_hashedState_X5_hashed rfl rfl rfl (by decide +kernel) ⟨Nat.le_of_ble_eq_true rfl, Nat.le_of_ble_eq_true rfl⟩) ⟨wU_blind, fun U hU hW => ⟨rfl, trivial⟩⟩ rfl rfl hl.1 rfl (lv_room (Nat.le_of_ble_eq_true rfl)) dX5_hashedState_106 ⟨Nat.zero_le _, Nat.zero_le _⟩) hS (fun q _ h => h.elim) (fun q h => h.elim) (fun r_9 uu t H_9 locs_9 ht hvm hw hB hz1 hk1 hS => ?_)
                    have hM := hM.same hk1
                    have hPa := hPa.same hk1
                    have hEl := hEl.same hk1
                    have hTr := hTr.same hk1
                    have hN := hN.same hk1
                    have hHi := hHi.same hk1
                    have hHs := hHs.same hk1
                    obtain rfl : r_9 = ((31 * ((31 * hv3 + ((((z.2.2.2 i).2.2.2.1.getD j3 0) &&& 4095).toInt64))) + ((((z.2.2.2 i).2.2.2.1.getD j3 0) >>> ((12 : Int32) &&& 31)).toInt64))) := hw
                    refine lv_lstore (lv' := [(4, .long (((31 * ((31 * hv3 + ((((z.2.2.2 i).2.2.2.1.getD j3 0) &&& 4095).toInt64))) + ((((z.2.2.2 i).2.2.2.1.getD j3 0) >>> ((12 : Int32) &&& 31)).toInt64))))), (7, .int (((z.2.2.2 i).2.2.2.1.getD j3 0))), (6, .int (nI j3)), (0, .ref ((g 0))), (1, .long h0), (3, .ref ((off g 8 (3 + 3 * i))))]) hx hb dX5_hashedState_109 hl (by decide) rfl (fun ls hl => ?_)
                    refine lv_iinc (v := (nI (j3 + 1))) (lv' := [(6, .int (nI (j3 + 1))), (4, .long (((31 * ((31 * hv3 + ((((z.2.2.2 i).2.2.2.1.getD j3 0) &&& 4095).toInt64))) + ((((z.2.2.2 i).2.2.2.1.getD j3 0) >>> ((12 : Int32) &&& 31)).toInt64))))), (7, .int (((z.2.2.2 i).2.2.2.1.getD j3 0))), (0, .ref ((g 0))), (1, .long h0), (3, .ref ((off g 8 (3 + 3 * i))))]) hx hb dX5_hashedState_111 hl (k := 2) rfl (nI_1 _) (by decide) rfl (fun ls hl => ?_)
                    refine lv_goto (tgt := 72) hx hb dX5_hashedState_114 (by decide) ?_
                    have hres7 : hsW (z.2.2.2 i).2.2.2.1 k3 (j3 + 1) ((31 * ((31 * hv3 + ((((z.2.2.2 i).2.2.2.1.getD j3 0) &&& 4095).toInt64))) + ((((z.2.2.2 i).2.2.2.1.getD j3 0) >>> ((12 : Int32) &&& 31)).toInt64))) = hstF z (z.2.2.2 i) h0 := by rw [← hres6]; rfl
                    exact ih (j3 + 1) ((31 * ((31 * hv3 + ((((z.2.2.2 i).2.2.2.1.getD j3 0) &&& 4095).toInt64))) + ((((z.2.2.2 i).2.2.2.1.getD j3 0) >>> ((12 : Int32) &&& 31)).toInt64))) _ _ ls (by omega) hres7 hM hPa hEl hTr hN hHi hHs hS (lv_sub hl [0, 1, 3, 4, 5] rfl)
              exact L72 (z.2.2.2 i).2.2.2.1.length 0 hv2 _ _ ls (by omega) (by rw [hres5]; rfl) hM hPa hEl hTr hN hHi hHs hS (lv_sub hl [0, 1, 2, 3, 4] rfl)
            · have n_2 : ¬ z.1 ≤ j2 := fun z9 => c_2 ((nI_leI (a := z.1) (b := j2) (by omega) (by omega)).mpr z9)
              exfalso
              omega
          | succ k2 ih =>
            intro j2 hv2 H locs ls hi2 hres3 hM hPa hEl hTr hN hHi hHs hS hl
            refine lv_iload hx hb dX5_hashedState_37 (lv_at hl 0 rfl) ?_
            refine lv_aload_n hx hb dX5_hashedState_39 rfl (lv_at hl 2 rfl) ?_
            refine w_get (C := RX5) (T := TX5) (N := 7) (ci := 5) (v := .ref ((g 8))) hx hb hts hin5 hown hK hM 0 (by decide) rfl rfl 0 (by decide) (hts (.fieldLink RX5 12 "MixedBlocks" "now" "LMixedBlocks$State;") (List.mem_of_getElem? (i := 1) rfl)) (fun _ h9 => h9) rfl dX5_hashedState_40 ?_
            refine w_getN (C := RX4) (T := TX4) (N := 4) (ci := 4) (v := .int (nI z.1)) hx hb hts hin4 hown hK hN.1 0 (by decide) rfl rfl 0 (by decide) nf_X5_63 (fun _ h9 => h9) rfl dX5_hashedState_43 ?_
            refine lv_icmp_ge (tgt := 69) hx hb dX5_hashedState_46 (by decide) (fun c_10 => ?_) (fun c_10 => ?_)
            · have n_10 : z.1 ≤ j2 := (nI_leI (a := z.1) (b := j2) (by omega) (by omega)).mp c_10
              exfalso
              omega
            · have n_10 : ¬ z.1 ≤ j2 := fun z9 => c_10 ((nI_leI (a := z.1) (b := j2) (by omega) (by omega)).mpr z9)
              refine lv_lload hx hb dX5_hashedState_49 (lv_at hl 1 rfl) ?_
              refine lv_aload_n hx hb dX5_hashedState_51 rfl (lv_at hl 4 rfl) ?_
              refine lv_iload hx hb dX5_hashedState_52 (lv_at hl 0 rfl) ?_
              have hRi := hN.2 i (by omega)
              obtain ⟨hlnI, lfI, hlfI, hPI⟩ := id hRi
              refine va_calli (va_runV (As := [.int (nI j2)]) (rest := [.long hv2]) ⟨hx, hb, hml, hown, hts⟩ (c_X3_valueKnown l E (rg (off g 8) i) (z.2.2.2 i).1 (z.2.2.2 i).2.1 (z.2.2.2 i).2.2.1 (z.2.2.2 i).2.2.2.1 (z.2.2.2 i).2.2.2.2.1 (z.2.2.2 i).2.2.2.2.2.1 (z.2.2.2 i).2.2.2.2.2.2 j2 (by omega)) (cwV 1 hts gX5_hashedState_X3_valueKnown rfl rfl rfl (by decide +kernel) ⟨Nat.le_of_ble_eq_true rfl, Nat.le_of_ble_eq_true rfl⟩) ⟨wS.blind, (w_recv hK hPI 0 (by decide) rfl (ci := 3) rfl), fun U hU hW => wS.go hRi hK (rg_I (off_I hI (by decide)) (by omega)) hU hW⟩ rfl rfl hl.1 rfl (lv_room (Nat.le_of_ble_eq_true rfl)) dX5_hashedState_54 ⟨Nat.zero_le _, Nat.zero_le _⟩) hS (fun q _ h => h.elim) (fun q h => h.elim) (fun r_11 uu t H_11 locs_11 ht hvm hw hB hz1 hk1 hS => ?_)
              have hM := hM.same hk1
              have hPa := hPa.same hk1
              have hEl := hEl.same hk1
              have hTr := hTr.same hk1
              have hN := hN.same hk1
              have hHi := hHi.same hk1
              have hHs := hHs.same hk1
              obtain rfl : r_11 = (knownF (z.2.2.2 i) j2) := hw
              refine lv_i2l (v := (knownF (z.2.2.2 i) j2).toInt64) hx hb dX5_hashedState_57 rfl ?_
              refine va_calll (va_runS (As := [.long hv2, .long ((knownF (z.2.2.2 i) j2).toInt64)]) (rest := []) ⟨hx, hb, hml, hown, hts⟩ (c_X5_hashed l hv2 ((knownF (z.2.2.2 i) j2).toInt64)) (va_cwS 2 hts gX5_hashedState_X5_hashed rfl rfl rfl (by decide +kernel) ⟨Nat.le_of_ble_eq_true rfl, Nat.le_of_ble_eq_true rfl⟩) ⟨wU_blind, fun U hU hW => ⟨rfl, trivial⟩⟩ rfl rfl hl.1 rfl (lv_room (Nat.le_of_ble_eq_true rfl)) dX5_hashedState_58 ⟨Nat.zero_le _, Nat.zero_le _⟩) hS (fun q _ h => h.elim) (fun q h => h.elim) (fun r_12 uu t H_12 locs_12 ht hvm hw hB hz1 hk1 hS => ?_)
              have hM := hM.same hk1
              have hPa := hPa.same hk1
              have hEl := hEl.same hk1
              have hTr := hTr.same hk1
              have hN := hN.same hk1
              have hHi := hHi.same hk1
              have hHs := hHs.same hk1
              obtain rfl : r_12 = ((31 * hv2 + ((knownF (z.2.2.2 i) j2).toInt64))) := hw
              refine lv_lstore (lv' := [(4, .long (((31 * hv2 + ((knownF (z.2.2.2 i) j2).toInt64))))), (6, .int (nI j2)), (0, .ref ((g 0))), (1, .long h0), (3, .ref ((off g 8 (3 + 3 * i))))]) hx hb dX5_hashedState_61 hl (by decide) rfl (fun ls hl => ?_)
              refine lv_iinc (v := (nI (j2 + 1))) (lv' := [(6, .int (nI (j2 + 1))), (4, .long (((31 * hv2 + ((knownF (z.2.2.2 i) j2).toInt64))))), (0, .ref ((g 0))), (1, .long h0), (3, .ref ((off g 8 (3 + 3 * i))))]) hx hb dX5_hashedState_63 hl (k := 1) rfl (nI_1 _) (by decide) rfl (fun ls hl => ?_)
              refine lv_goto (tgt := 37) hx hb dX5_hashedState_66 (by decide) ?_
              have hres4 : hsN (fun b => knownF (z.2.2.2 i) b) k2 (j2 + 1) (31 * hv2 + (knownF (z.2.2.2 i) j2).toInt64) = (hsN (fun b => knownF (z.2.2.2 i) b) z.1 0 (hsN (fun j => numF z.1 (z.2.2.2 i) j) 9 0 h0)) := by rw [← hres3]; rfl
              exact ih (j2 + 1) (31 * hv2 + (knownF (z.2.2.2 i) j2).toInt64) _ _ ls (by omega) hres4 hM hPa hEl hTr hN hHi hHs hS (lv_sub hl [0, 1, 2, 3, 4] rfl)
        exact L37 z.1 0 hv _ _ ls (by omega) (by rw [hres0]) hM hPa hEl hTr hN hHi hHs hS (lv_sub hl [0, 1, 2, 3, 4] rfl)
      · have n_1 : ¬ 9 ≤ j := fun z9 => c_1 ((nI_leI (a := 9) (b := j) (by omega) (by omega)).mpr z9)
        exfalso
        omega
    | succ k ih =>
      intro j hv ol2 zs2 pa2 el2 tli2 tq2 H locs ls hi hrg hres hM hPa hEl hTr hN hHi hHs hS hl
      refine lv_iload hx hb dX5_hashedState_6 (lv_at hl 0 rfl) ?_
      refine lv_bipush (v := 9) hx hb dX5_hashedState_8 (by decide) ?_
      refine lv_icmp_ge (tgt := 34) hx hb dX5_hashedState_10 (by decide) (fun c_13 => ?_) (fun c_13 => ?_)
      · have n_13 : 9 ≤ j := (nI_leI (a := 9) (b := j) (by omega) (by omega)).mp c_13
        exfalso
        omega
      · have n_13 : ¬ 9 ≤ j := fun z9 => c_13 ((nI_leI (a := 9) (b := j) (by omega) (by omega)).mpr z9)
        refine lv_lload hx hb dX5_hashedState_13 (lv_at hl 1 rfl) ?_
        refine lv_aload_n hx hb dX5_hashedState_15 rfl (lv_at hl 2 rfl) ?_
        refine lv_aload_n hx hb dX5_hashedState_16 rfl (lv_at hl 4 rfl) ?_
        refine lv_iload hx hb dX5_hashedState_17 (lv_at hl 0 rfl) ?_
        refine va_calli (va_runV (As := [.ref ((off g 8 (3 + 3 * i))), .int (nI j)]) (rest := [.long hv]) ⟨hx, hb, hml, hown, hts⟩ (c_X5_numberOf l E g ln bf z ke hs i (by omega) j (by omega)) (cwV 2 hts gX5_hashedState_X5_numberOf rfl rfl rfl (by decide +kernel) ⟨Nat.le_of_ble_eq_true rfl, Nat.le_of_ble_eq_true rfl⟩) ⟨wS.blind, (w_recv hK hM 0 (by decide) rfl (ci := 5) rfl), fun U hU hW => wS.go ⟨ol2, zs2, hrg, hM, ⟨⟨(pa2.1, pa2.2.1, pa2.2.2), hPa⟩, ⟨(el2.1, el2.2), hEl⟩, ⟨tli2, tq2, hTr⟩⟩, hN, hHi, hHs⟩ hK hI hU hW⟩ rfl rfl hl.1 rfl (lv_room (Nat.le_of_ble_eq_true rfl)) dX5_hashedState_19 ⟨Nat.zero_le _, Nat.zero_le _⟩) hS (fun q _ h => h) (fun q h => h) (fun r_14 uu t H_14 locs_14 ht hvm hw hB hz1 hk1 hS => ?_)
        rw [ht] at hB
        obtain ⟨ol3, zs3, hrg3, hM, ⟨⟨pa3, hPa⟩, ⟨el3, hEl⟩, ⟨tli3, tq3, hTr⟩⟩, hN, hHi, hHs⟩ := hB
        have hN : stP E (off g 8) z.1 z.2.1 z.2.2.1 z.2.2.2 _ := hN
        obtain rfl : r_14 = (numF z.1 (z.2.2.2 i) j) := hw
        refine lv_i2l (v := (numF z.1 (z.2.2.2 i) j).toInt64) hx hb dX5_hashedState_22 rfl ?_
        refine va_calll (va_runS (As := [.long hv, .long ((numF z.1 (z.2.2.2 i) j).toInt64)]) (rest := []) ⟨hx, hb, hml, hown, hts⟩ (c_X5_hashed l hv ((numF z.1 (z.2.2.2 i) j).toInt64)) (va_cwS 2 hts gX5_hashedState_X5_hashed rfl rfl rfl (by decide +kernel) ⟨Nat.le_of_ble_eq_true rfl, Nat.le_of_ble_eq_true rfl⟩) ⟨wU_blind, fun U hU hW => ⟨rfl, trivial⟩⟩ rfl rfl hl.1 rfl (lv_room (Nat.le_of_ble_eq_true rfl)) dX5_hashedState_23 ⟨Nat.zero_le _, Nat.zero_le _⟩) hS (fun q _ h => h.elim) (fun q h => h.elim) (fun r_15 uu t H_15 locs_15 ht hvm hw hB hz1 hk1 hS => ?_)
        have hM := hM.same hk1
        have hPa := hPa.same hk1
        have hEl := hEl.same hk1
        have hTr := hTr.same hk1
        have hN := hN.same hk1
        have hHi := hHi.same hk1
        have hHs := hHs.same hk1
        obtain rfl : r_15 = ((31 * hv + ((numF z.1 (z.2.2.2 i) j).toInt64))) := hw
        refine lv_lstore (lv' := [(4, .long (((31 * hv + ((numF z.1 (z.2.2.2 i) j).toInt64))))), (6, .int (nI j)), (0, .ref ((g 0))), (1, .long h0), (3, .ref ((off g 8 (3 + 3 * i))))]) hx hb dX5_hashedState_26 hl (by decide) rfl (fun ls hl => ?_)
        refine lv_iinc (v := (nI (j + 1))) (lv' := [(6, .int (nI (j + 1))), (4, .long (((31 * hv + ((numF z.1 (z.2.2.2 i) j).toInt64))))), (0, .ref ((g 0))), (1, .long h0), (3, .ref ((off g 8 (3 + 3 * i))))]) hx hb dX5_hashedState_28 hl (k := 1) rfl (nI_1 _) (by decide) rfl (fun ls hl => ?_)
        refine lv_goto (tgt := 6) hx hb dX5_hashedState_31 (by decide) ?_
        have hres2 : hsN (fun j => numF z.1 (z.2.2.2 i) j) k (j + 1) (31 * hv + (numF z.1 (z.2.2.2 i) j).toInt64) = hsN (fun j => numF z.1 (z.2.2.2 i) j) 9 0 h0 := by rw [← hres]; rfl
        exact ih (j + 1) (31 * hv + (numF z.1 (z.2.2.2 i) j).toInt64) ol3 zs3 pa3 el3 tli3 tq3 _ _ ls (by omega) hrg3 hres2 hM hPa hEl hTr hN hHi hHs hS (lv_sub hl [0, 1, 2, 3, 4] rfl)
  exact L6 9 0 h0 ol zs pa el tli tq _ _ ls rfl ⟨hol, hke, hzs, hln, hnb2, hnb⟩ rfl hM hPa hEl hTr hN hHi hHs hS (lv_sub hl [0, 1, 2, 3, 4] rfl)
