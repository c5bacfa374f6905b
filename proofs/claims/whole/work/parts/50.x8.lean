set_option maxHeartbeats 4000000 in
set_option maxRecDepth 100000 in
theorem c_X5_firstError (l : Launch) (E : wE) (g : Nat → Nat) (ln : Nat) (bf : Nat → Int32) (z : SS) (ke : Nat) (hs : Nat → SS) (cd : Nat → Nat) (hcs : ∀ j, j < ln → cd j ≤ 126) (hbf : ∀ j, j < ln → bf j = nI (cd j)) : Met l yX5_firstError wsX5_firstError ({ frames := 3, cells := 0, slots := 0, locals := 67 }) (va_Pc [.ref ((g 0))] (wS E 94 g (MB E g ln bf z ke hs))) (va_Qi (fun (r : Int32) (_ : Unit) => r = nI (feT cd ln).1) (fun _ t => MBp E g ln bf z ke hs ((feT cd ln).2) (t.heap)) (wF 94 g)) 0 0 (wF 94 g) := by
  refine Met.ofW (cc := cX5_firstError) (maxL := 2) (ret := (some .int)) (by decide) rfl ?_
  intro p e s m args below meth c s₁ B hml hv
  obtain ⟨rfl, ⟨ol, zs, ⟨hol, hke, hzs, hln, hnb2, hnb⟩, hM, ⟨⟨pa, hPa⟩, ⟨el, hEl⟩, ⟨tli, tq, hTr⟩⟩, hN, hHi, hHs⟩, hK, hI⟩ := hv
  have hx := B.exec
  have hb := B.bytes
  have hr := B.returns
  have hts := atoms_spec (ws := wsX5_firstError) B.pre
  have hown : s.vm.findClass RX5 = some m.cls := findClass_of_methodNamed B.named
  have hlocks := B.notSynchronized
  have hS : va_S (wF 94 g) s.heap s.heap [] := va_S.rf
  have hin5 : ∀ w ∈ wsX50, w ∈ wsX5_firstError := by decide +kernel
  have hA : ∀ k, k < 94 → (wF 94 g) (g k) := wF_in
  have hl := lv_entry ([.ref ((g 0))]) (n := 2) (Nat.le_of_ble_eq_true rfl)
  rw [lg_entry_eq]
  generalize (lg_sl ([.ref ((g 0))]) ++ List.replicate (2 - (lg_sl ([.ref ((g 0))])).length) Slot.unset).toArray = ls at hl ⊢
  have hl : lv_has ls 2 [(0, .ref ((g 0)))] := hl
  have hN : stP E (off g 8) z.1 z.2.1 z.2.2.1 z.2.2.2 s.heap := hN
  refine lv_aload_n hx hb dX5_firstError_0 rfl (lv_at hl 0 rfl) ?_
  refine w_get (C := RX5) (T := TX5) (N := 7) (ci := 5) (v := .ref ((g 2))) hx hb hts hin5 hown hK hM 0 (by decide) rfl rfl 4 (by decide) (hts (.fieldLink RX5 34 "MixedBlocks" "part" "LMixedBlocks$Part;") (List.mem_of_getElem? (i := 1) rfl)) (fun _ h9 => h9) rfl dX5_firstError_1 ?_
  refine va_callv (va_runV (As := []) (rest := []) ⟨hx, hb, hml, hown, hts⟩ (c_X2_begin l E (off g 2) pa.1 pa.2.1 pa.2.2) (cwV 0 hts gX5_firstError_X2_begin rfl rfl rfl (by decide +kernel) ⟨Nat.le_of_ble_eq_true rfl, Nat.le_of_ble_eq_true rfl⟩) ⟨wS.blind, (w_recv hK hPa 0 (by decide) rfl (ci := 2) rfl), fun U hU hW => wS.go hPa hK (off_I hI (by decide)) hU hW⟩ rfl rfl hl.1 rfl (lv_room (Nat.le_of_ble_eq_true rfl)) dX5_firstError_4 ⟨Nat.zero_le _, Nat.zero_le _⟩) hS (fun q _ h => (off_in (o := 2) (n := 1) (by decide)) q h) (off_in (o := 2) (n := 1) (by decide)) (fun uu t H_1 locs_1 ht hvm hw hB hz1 hk1 hS => ?_)
  rw [ht] at hB
  have hPa : wP E 1 (off g 2) (paF (-1) 0 0) H_1 := hB
  have hM := hM.other hk1 (off_M hI (by decide) (by decide)).out
  have hEl := hEl.other hk1 (off_X hI (by decide) (by decide) (by decide)).out
  have hTr := hTr.other hk1 (off_X hI (by decide) (by decide) (by decide)).out
  have hN := hN.other hk1 (off_X hI (by decide) (by decide) (by decide)).out
  have hHi := hHi.other hk1 (off_X hI (by decide) (by decide) (by decide)).out
  have hHs := hHs.other hk1 (off_X hI (by decide) (by decide) (by decide)).out
  refine lv_iconst (v := 0) hx hb dX5_firstError_7 (by decide) ?_
  refine lv_istore_n (lv' := [(1, .int 0), (0, .ref ((g 0)))]) hx hb dX5_firstError_8 rfl hl (by decide) rfl (fun ls hl => ?_)
  have L9 : ∀ (k : Nat) (i : Nat) (q : PA) (H : Heap) (locs : List Loc) (ls : Array Slot), i + k = ln → paOK q → feS cd k i q = feT cd ln → wP E 2 g (mbF E g ln bf) H → wP E 1 (off g 2) (paF q.1 q.2.1 q.2.2) H → wP E 2 (off g 3) (elF E (off g 3) el.1 el.2) H → rcT E (off g 5) tli tq H → stP E (off g 8) z.1 z.2.1 z.2.2.1 z.2.2.2 H → wP E 2 (off g 20) (hiF E (off g 20) ol ke) H → hiS E (off g 20) zs H → va_S (wF 94 g) s.heap H locs → lv_has ls 2 [(1, .int (nI i)), (0, .ref ((g 0)))] → W p l e (headSpec wsX5_firstError ({ frames := 3, cells := 0, slots := 0, locals := 67 })).room s m ([.ref ((g 0))] : List Value).toArray below meth c H locs 0 0 (MQ below (va_Qi (fun (r : Int32) (_ : Unit) => r = nI (feT cd ln).1) (fun _ t => MBp E g ln bf z ke hs ((feT cd ln).2) (t.heap)) (wF 94 g)) ([.ref ((g 0))] : List Value).toArray s 0 0 (wF 94 g)) (F0 m 9 ls []) := by
    intro k
    induction k with
    | zero =>
      intro i q H locs ls hi hq hres hM hPa hEl hTr hN hHi hHs hS hl
      refine lv_iload_n hx hb dX5_firstError_9 rfl (lv_at hl 0 rfl) ?_
      refine lv_aload_n hx hb dX5_firstError_10 rfl (lv_at hl 1 rfl) ?_
      refine w_get (C := RX5) (T := TX5) (N := 7) (ci := 5) (v := .int (nI ln)) hx hb hts hin5 hown hK hM 0 (by decide) rfl rfl 3 (by decide) (hts (.fieldLink RX5 27 "MixedBlocks" "length" "I") (List.mem_of_getElem? (i := 2) rfl)) (fun _ h9 => h9) rfl dX5_firstError_11 ?_
      refine lv_icmp_ge (tgt := 50) hx hb dX5_firstError_14 (by decide) (fun c_2 => ?_) (fun c_2 => ?_)
      · have n_2 : ln ≤ i := (nI_leI (a := ln) (b := i) (by omega) (by omega)).mp c_2
        refine lv_aload_n hx hb dX5_firstError_50 rfl (lv_at hl 1 rfl) ?_
        refine w_get (C := RX5) (T := TX5) (N := 7) (ci := 5) (v := .int (nI ln)) hx hb hts hin5 hown hK hM 0 (by decide) rfl rfl 3 (by decide) (hts (.fieldLink RX5 27 "MixedBlocks" "length" "I") (List.mem_of_getElem? (i := 2) rfl)) (fun _ h9 => h9) rfl dX5_firstError_51 ?_
        exact W.iret (v := (nI ln)) hx hb hr (fun t ht hW => ⟨⟨_, (), rfl, (by show _ = _; rw [← hres, show ln = i from by omega]; rfl), (by show MBp E g ln bf z ke hs (feT cd ln).2 t.heap; rw [ht, ← hres]; exact ⟨ol, zs, ⟨hol, hke, hzs, hln, hnb2, hnb⟩, hM, ⟨hPa, ⟨(el.1, el.2), hEl⟩, ⟨tli, tq, hTr⟩⟩, hN, hHi, hHs⟩)⟩, hS.F ht⟩) hS.2.2 dX5_firstError_54
      · have n_2 : ¬ ln ≤ i := fun z => c_2 ((nI_leI (a := ln) (b := i) (by omega) (by omega)).mpr z)
        exfalso
        omega
    | succ k ih =>
      intro i q H locs ls hi hq hres hM hPa hEl hTr hN hHi hHs hS hl
      refine lv_iload_n hx hb dX5_firstError_9 rfl (lv_at hl 0 rfl) ?_
      refine lv_aload_n hx hb dX5_firstError_10 rfl (lv_at hl 1 rfl) ?_
      refine w_get (C := RX5) (T := TX5) (N := 7) (ci := 5) (v := .int (nI ln)) hx hb hts hin5 hown hK hM 0 (by decide) rfl rfl 3 (by decide) (hts (.fieldLink RX5 27 "MixedBlocks" "length" "I") (List.mem_of_getElem? (i := 2) rfl)) (fun _ h9 => h9) rfl dX5_firstError_11 ?_
      refine lv_icmp_ge (tgt := 50) hx hb dX5_firstError_14 (by decide) (fun c_3 => ?_) (fun c_3 => ?_)
      · have n_3 : ln ≤ i := (nI_leI (a := ln) (b := i) (by omega) (by omega)).mp c_3
        exfalso
        omega
      · have n_3 : ¬ ln ≤ i := fun z => c_3 ((nI_leI (a := ln) (b := i) (by omega) (by omega)).mpr z)
        refine lv_iload_n hx hb dX5_firstError_17 rfl (lv_at hl 0 rfl) ?_
        refine lv_aload_n hx hb dX5_firstError_18 rfl (lv_at hl 1 rfl) ?_
        refine w_get (C := RX5) (T := TX5) (N := 7) (ci := 5) (v := .ref ((g 1))) hx hb hts hin5 hown hK hM 0 (by decide) rfl rfl 2 (by decide) (hts (.fieldLink RX5 23 "MixedBlocks" "buffer" "[I") (List.mem_of_getElem? (i := 3) rfl)) (fun _ h9 => h9) rfl dX5_firstError_19 ?_
        refine w_alen (v := 60) hx hb hK hM 1 (by decide) rfl rfl dX5_firstError_22 ?_
        refine lv_icmp_ge (tgt := 50) hx hb dX5_firstError_23 (by decide) (fun c_4 => ?_) (fun c_4 => ?_)
        · have n_4 : 60 ≤ i := (nI_leI (a := 60) (b := i) (by omega) (by omega)).mp c_4
          exfalso
          omega
        · have n_4 : ¬ 60 ≤ i := fun z => c_4 ((nI_leI (a := 60) (b := i) (by omega) (by omega)).mpr z)
          refine lv_aload_n hx hb dX5_firstError_26 rfl (lv_at hl 1 rfl) ?_
          refine w_get (C := RX5) (T := TX5) (N := 7) (ci := 5) (v := .ref ((g 2))) hx hb hts hin5 hown hK hM 0 (by decide) rfl rfl 4 (by decide) (hts (.fieldLink RX5 34 "MixedBlocks" "part" "LMixedBlocks$Part;") (List.mem_of_getElem? (i := 1) rfl)) (fun _ h9 => h9) rfl dX5_firstError_27 ?_
          refine lv_aload_n hx hb dX5_firstError_30 rfl (lv_at hl 1 rfl) ?_
          refine w_get (C := RX5) (T := TX5) (N := 7) (ci := 5) (v := .ref ((g 1))) hx hb hts hin5 hown hK hM 0 (by decide) rfl rfl 2 (by decide) (hts (.fieldLink RX5 23 "MixedBlocks" "buffer" "[I") (List.mem_of_getElem? (i := 3) rfl)) (fun _ h9 => h9) rfl dX5_firstError_31 ?_
          refine lv_iload_n hx hb dX5_firstError_34 rfl (lv_at hl 0 rfl) ?_
          refine w_iald hx hb hK hM 1 (by decide) rfl (vp_in_nI (by omega) (by decide)) dX5_firstError_35 ?_
          rw [nI_clamp (by omega)]
          rw [hbf i (by omega)]
          refine va_calli (va_runV (As := [.int (nI (cd i))]) (rest := []) ⟨hx, hb, hml, hown, hts⟩ (c_X2_takes l E (off g 2) q.1 q.2.1 q.2.2 (cd i) (hcs i (by omega)) hq.le hq.2.1) (cwV 1 hts gX5_firstError_X2_takes rfl rfl rfl (by decide +kernel) ⟨Nat.le_of_ble_eq_true rfl, Nat.le_of_ble_eq_true rfl⟩) ⟨wS.blind, (w_recv hK hPa 0 (by decide) rfl (ci := 2) rfl), fun U hU hW => wS.go hPa hK (off_I hI (by decide)) hU hW⟩ rfl rfl hl.1 rfl (lv_room (Nat.le_of_ble_eq_true rfl)) dX5_firstError_36 ⟨Nat.zero_le _, Nat.zero_le _⟩) hS (fun q _ h => (off_in (o := 2) (n := 1) (by decide)) q h) (off_in (o := 2) (n := 1) (by decide)) (fun r_5 uu t H_5 locs_5 ht hvm hw hB hz1 hk1 hS => ?_)
          rw [ht] at hB
          have hPa : wP E 1 (off g 2) (paF (tkS q (cd i)).2.1 (tkS q (cd i)).2.2.1 (tkS q (cd i)).2.2.2) H_5 := hB
          have hM := hM.other hk1 (off_M hI (by decide) (by decide)).out
          have hEl := hEl.other hk1 (off_X hI (by decide) (by decide) (by decide)).out
          have hTr := hTr.other hk1 (off_X hI (by decide) (by decide) (by decide)).out
          have hN := hN.other hk1 (off_X hI (by decide) (by decide) (by decide)).out
          have hHi := hHi.other hk1 (off_X hI (by decide) (by decide) (by decide)).out
          have hHs := hHs.other hk1 (off_X hI (by decide) (by decide) (by decide)).out
          obtain rfl : r_5 = (bI (tkS q (cd i)).1) := hw
          refine lv_if_ne (tgt := 44) hx hb dX5_firstError_39 (by decide) (fun c_6 => ?_) (fun c_6 => ?_)
          · refine lv_iinc (v := (nI (i + 1))) (lv' := [(1, .int (nI (i + 1))), (0, .ref ((g 0)))]) hx hb dX5_firstError_44 hl (k := 0) rfl (nI_1 _) (by decide) rfl (fun ls hl => ?_)
            refine lv_goto (tgt := 9) hx hb dX5_firstError_47 (by decide) ?_
            have hres2 : feS cd k (i + 1) (tkS q (cd i)).2 = feT cd ln := by rw [← hres, feS, bI_1 c_6]; rfl
            exact ih (i + 1) (tkS q (cd i)).2 _ _ ls (by omega) (tkS_ok hq) hres2 hM hPa hEl hTr hN hHi hHs hS (lv_sub hl [0, 1] rfl)
          · refine lv_iload_n hx hb dX5_firstError_42 rfl (lv_at hl 0 rfl) ?_
            have hfe : feT cd ln = (i, (tkS q (cd i)).2) := by rw [← hres, feS, bI_0 c_6]; rfl
            exact W.iret (v := (nI i)) hx hb hr (fun t ht hW => ⟨⟨_, (), rfl, (by show _ = _; rw [hfe]), (by show MBp E g ln bf z ke hs (feT cd ln).2 t.heap; rw [ht, hfe]; exact ⟨ol, zs, ⟨hol, hke, hzs, hln, hnb2, hnb⟩, hM, ⟨hPa, ⟨(el.1, el.2), hEl⟩, ⟨tli, tq, hTr⟩⟩, hN, hHi, hHs⟩)⟩, hS.F ht⟩) hS.2.2 dX5_firstError_43
  exact L9 ln 0 (-1, 0, 0) _ _ ls (by omega) paOK_0 rfl hM hPa hEl hTr hN hHi hHs hS (lv_sub hl [0, 1] rfl)
set_option maxHeartbeats 4000000 in
set_option maxRecDepth 100000 in
theorem c_X5_isCompleteText (l : Launch) (E : wE) (g : Nat → Nat) (ln : Nat) (bf : Nat → Int32) (z : SS) (ke : Nat) (hs : Nat → SS) (cd : Nat → Nat) (hcs : ∀ j, j < ln → cd j ≤ 126) (hbf : ∀ j, j < ln → bf j = nI (cd j)) : Met l yX5_isCompleteText wsX5_isCompleteText ({ frames := 4, cells := 0, slots := 0, locals := 88 }) (va_Pc [.ref ((g 0))] (wS E 94 g (MB E g ln bf z ke hs))) (va_Qi (fun (r : Int32) (_ : Unit) => r = bI (ctS cd ln)) (fun _ t => MB E g ln bf z ke hs (t.heap)) (wF 94 g)) 0 0 (wF 94 g) := by
  refine Met.ofW (cc := cX5_isCompleteText) (maxL := 1) (ret := (some .boolean)) (by decide) rfl ?_
  intro p e s m args below meth c s₁ B hml hv
  obtain ⟨rfl, ⟨ol, zs, ⟨hol, hke, hzs, hln, hnb2, hnb⟩, hM, ⟨⟨pa, hPa⟩, ⟨el, hEl⟩, ⟨tli, tq, hTr⟩⟩, hN, hHi, hHs⟩, hK, hI⟩ := hv
  have hx := B.exec
  have hb := B.bytes
  have hr := B.returns
  have hts := atoms_spec (ws := wsX5_isCompleteText) B.pre
  have hown : s.vm.findClass RX5 = some m.cls := findClass_of_methodNamed B.named
  have hlocks := B.notSynchronized
  have hS : va_S (wF 94 g) s.heap s.heap [] := va_S.rf
  have hin5 : ∀ w ∈ wsX50, w ∈ wsX5_isCompleteText := by decide +kernel
  have hA : ∀ k, k < 94 → (wF 94 g) (g k) := wF_in
  have hl := lv_entry ([.ref ((g 0))]) (n := 1) (Nat.le_of_ble_eq_true rfl)
  rw [lg_entry_eq]
  generalize (lg_sl ([.ref ((g 0))]) ++ List.replicate (1 - (lg_sl ([.ref ((g 0))])).length) Slot.unset).toArray = ls at hl ⊢
  have hl : lv_has ls 1 [(0, .ref ((g 0)))] := hl
  have hN : stP E (off g 8) z.1 z.2.1 z.2.2.1 z.2.2.2 s.heap := hN
  refine lv_aload_n hx hb dX5_isCompleteText_0 rfl (lv_at hl 0 rfl) ?_
  refine va_calli (va_runV (As := []) (rest := []) ⟨hx, hb, hml, hown, hts⟩ (c_X5_firstError l E g ln bf z ke hs cd hcs hbf) (cwV 0 hts gX5_isCompleteText_X5_firstError rfl rfl rfl (by decide +kernel) ⟨Nat.le_of_ble_eq_true rfl, Nat.le_of_ble_eq_true rfl⟩) ⟨wS.blind, (w_recv hK hM 0 (by decide) rfl (ci := 5) rfl), fun U hU hW => wS.go ⟨ol, zs, ⟨hol, hke, hzs, hln, hnb2, hnb⟩, hM, ⟨⟨(pa.1, pa.2.1, pa.2.2), hPa⟩, ⟨(el.1, el.2), hEl⟩, ⟨tli, tq, hTr⟩⟩, hN, hHi, hHs⟩ hK hI hU hW⟩ rfl rfl hl.1 rfl (lv_room (Nat.le_of_ble_eq_true rfl)) dX5_isCompleteText_1 ⟨Nat.zero_le _, Nat.zero_le _⟩) hS (fun q _ h => h) (fun q h => h) (fun r_1 uu t H_1 locs_1 ht hvm hw hB hz1 hk1 hS => ?_)
  rw [ht] at hB
  obtain ⟨ol, zs, ⟨hol, hke, hzs, hln, hnb2, hnb⟩, hM, ⟨hPa, ⟨el, hEl⟩, ⟨tli, tq, hTr⟩⟩, hN, hHi, hHs⟩ := hB
  have hN : stP E (off g 8) z.1 z.2.1 z.2.2.1 z.2.2.2 _ := hN
  obtain ⟨hfok, hfle⟩ := feS_ok (cd := cd) ln 0 (-1, 0, 0) paOK_0
  have hfle : (feT cd ln).1 ≤ 0 + ln := hfle
  obtain rfl : r_1 = (nI (feT cd ln).1) := hw
  refine lv_aload_n hx hb dX5_isCompleteText_4 rfl (lv_at hl 0 rfl) ?_
  refine w_get (C := RX5) (T := TX5) (N := 7) (ci := 5) (v := .int (nI ln)) hx hb hts hin5 hown hK hM 0 (by decide) rfl rfl 3 (by decide) (hts (.fieldLink RX5 27 "MixedBlocks" "length" "I") (List.mem_of_getElem? (i := 1) rfl)) (fun _ h9 => h9) rfl dX5_isCompleteText_5 ?_
  refine lv_icmp_ne (tgt := 25) hx hb dX5_isCompleteText_8 (by decide) (fun c_2 => ?_) (fun c_2 => ?_)
  · have h8 : ¬ (feT cd ln).1 = ln := fun y => c_2 (by rw [y])
    refine lv_iconst (v := 0) hx hb dX5_isCompleteText_25 (by decide) ?_
    exact W.zret (v := 0) hx hb hr rfl (fun t ht hW => ⟨⟨_, (), rfl, (bI_ne (c := (feT cd ln).1 = ln ∧ cmI (feT cd ln).2 = true) (fun y => h8 y.1)), (by show MB E g ln bf z ke hs t.heap; rw [ht]; exact ⟨ol, zs, ⟨hol, hke, hzs, hln, hnb2, hnb⟩, hM, ⟨⟨((feT cd ln).2.1, (feT cd ln).2.2.1, (feT cd ln).2.2.2), hPa⟩, ⟨(el.1, el.2), hEl⟩, ⟨tli, tq, hTr⟩⟩, hN, hHi, hHs⟩)⟩, hS.F ht⟩) hS.2.2 dX5_isCompleteText_26
  · have h8 : (feT cd ln).1 = ln := (nI_eq (a := (feT cd ln).1) (b := ln) (by omega) (by omega)).mp c_2
    refine lv_aload_n hx hb dX5_isCompleteText_11 rfl (lv_at hl 0 rfl) ?_
    refine w_get (C := RX5) (T := TX5) (N := 7) (ci := 5) (v := .ref ((g 2))) hx hb hts hin5 hown hK hM 0 (by decide) rfl rfl 4 (by decide) (hts (.fieldLink RX5 34 "MixedBlocks" "part" "LMixedBlocks$Part;") (List.mem_of_getElem? (i := 2) rfl)) (fun _ h9 => h9) rfl dX5_isCompleteText_12 ?_
    refine va_calli (va_runV (As := []) (rest := []) ⟨hx, hb, hml, hown, hts⟩ (c_X2_isComplete l E (off g 2) (feT cd ln).2.1 (feT cd ln).2.2.1 (feT cd ln).2.2.2 hfok.le hfok.2.1) (cwV 0 hts gX5_isCompleteText_X2_isComplete rfl rfl rfl (by decide +kernel) ⟨Nat.le_of_ble_eq_true rfl, Nat.le_of_ble_eq_true rfl⟩) ⟨wS.blind, (w_recv hK hPa 0 (by decide) rfl (ci := 2) rfl), fun U hU hW => wS.go hPa hK (off_I hI (by decide)) hU hW⟩ rfl rfl hl.1 rfl (lv_room (Nat.le_of_ble_eq_true rfl)) dX5_isCompleteText_15 ⟨Nat.zero_le _, Nat.zero_le _⟩) hS (fun q _ h => h.elim) (fun q h => h.elim) (fun r_3 uu t H_3 locs_3 ht hvm hw hB hz1 hk1 hS => ?_)
    have hM := hM.same hk1
    have hPa := hPa.same hk1
    have hEl := hEl.same hk1
    have hTr := hTr.same hk1
    have hN := hN.same hk1
    have hHi := hHi.same hk1
    have hHs := hHs.same hk1
    obtain rfl : r_3 = (bI (cmI (feT cd ln).2)) := hw
    refine lv_if_eq (tgt := 25) hx hb dX5_isCompleteText_18 (by decide) (fun c_4 => ?_) (fun c_4 => ?_)
    · refine lv_iconst (v := 0) hx hb dX5_isCompleteText_25 (by decide) ?_
      exact W.zret (v := 0) hx hb hr rfl (fun t ht hW => ⟨⟨_, (), rfl, (bI_ne (c := (feT cd ln).1 = ln ∧ cmI (feT cd ln).2 = true) (fun y => absurd (y.2.symm.trans (bI_0 c_4)) (by decide))), (by show MB E g ln bf z ke hs t.heap; rw [ht]; exact ⟨ol, zs, ⟨hol, hke, hzs, hln, hnb2, hnb⟩, hM, ⟨⟨((feT cd ln).2.1, (feT cd ln).2.2.1, (feT cd ln).2.2.2), hPa⟩, ⟨(el.1, el.2), hEl⟩, ⟨tli, tq, hTr⟩⟩, hN, hHi, hHs⟩)⟩, hS.F ht⟩) hS.2.2 dX5_isCompleteText_26
    · refine lv_iconst (v := 1) hx hb dX5_isCompleteText_21 (by decide) ?_
      refine lv_goto (tgt := 26) hx hb dX5_isCompleteText_22 (by decide) ?_
      exact W.zret (v := 1) hx hb hr rfl (fun t ht hW => ⟨⟨_, (), rfl, (bI_eq (c := (feT cd ln).1 = ln ∧ cmI (feT cd ln).2 = true) ⟨h8, bI_1 c_4⟩), (by show MB E g ln bf z ke hs t.heap; rw [ht]; exact ⟨ol, zs, ⟨hol, hke, hzs, hln, hnb2, hnb⟩, hM, ⟨⟨((feT cd ln).2.1, (feT cd ln).2.2.1, (feT cd ln).2.2.2), hPa⟩, ⟨(el.1, el.2), hEl⟩, ⟨tli, tq, hTr⟩⟩, hN, hHi, hHs⟩)⟩, hS.F ht⟩) hS.2.2 dX5_isCompleteText_26
set_option maxHeartbeats 4000000 in
set_option maxRecDepth 100000 in
theorem c_X5_sendPart (l : Launch) (E : wE) (g : Nat → Nat) (ln : Nat) (bf : Nat → Int32) (z : SS) (ke : Nat) (hs : Nat → SS) (mo : Nat) (hmo : mo ≤ 100) (q0 : PA) (hq : paOK q0) : Met l yX5_sendPart wsX5_sendPart ({ frames := 6, cells := 0, slots := 0, locals := 151 }) (va_Pc [.ref ((g 0)), .int (nI mo)] (wSd E 94 g (wF 94 g) (MBp E g ln bf z ke hs q0))) (va_Qi (fun (r : Int32) (_ : Unit) => r = nI (spN q0 mo)) (fun _ t => MBp E g ln bf (spZ (spN q0 mo) (fmN q0) z) ke hs q0 (t.heap)) (wF 94 g)) 0 0 (wF 94 g) := by
  refine Met.ofW (cc := cX5_sendPart) (maxL := 4) (ret := (some .int)) (by decide) rfl ?_
  intro p e s m args below meth c s₁ B hml hv
  obtain ⟨rfl, ⟨ol, zs, ⟨hol, hke, hzs, hln, hnb2, hnb⟩, hM, ⟨hPa, ⟨el, hEl⟩, ⟨tli, tq, hTr⟩⟩, hN, hHi, hHs⟩, hK, hI, hdg⟩ := hv
  have hx := B.exec
  have hb := B.bytes
  have hr := B.returns
  have hts := atoms_spec (ws := wsX5_sendPart) B.pre
  have hown : s.vm.findClass RX5 = some m.cls := findClass_of_methodNamed B.named
  have hlocks := B.notSynchronized
  have hS : va_S (wF 94 g) s.heap s.heap [] := va_S.rf
  have hin5 : ∀ w ∈ wsX50, w ∈ wsX5_sendPart := by decide +kernel
  have hA : ∀ k, k < 94 → (wF 94 g) (g k) := wF_in
  have hl := lv_entry ([.ref ((g 0)), .int (nI mo)]) (n := 4) (Nat.le_of_ble_eq_true rfl)
  rw [lg_entry_eq]
  generalize (lg_sl ([.ref ((g 0)), .int (nI mo)]) ++ List.replicate (4 - (lg_sl ([.ref ((g 0)), .int (nI mo)])).length) Slot.unset).toArray = ls at hl ⊢
  have hl : lv_has ls 4 [(0, .ref ((g 0))), (1, .int (nI mo))] := hl
  have hN : stP E (off g 8) z.1 z.2.1 z.2.2.1 z.2.2.2 s.heap := hN
  obtain ⟨hfm, hfm9⟩ := fmN_I hq
  have hnu := hq.le
  refine lv_iconst (v := 0) hx hb dX5_sendPart_0 (by decide) ?_
  refine lv_istore_n (lv' := [(2, .int 0), (0, .ref ((g 0))), (1, .int (nI mo))]) hx hb dX5_sendPart_1 rfl hl (by decide) rfl (fun ls hl => ?_)
  refine lv_aload_n hx hb dX5_sendPart_2 rfl (lv_at hl 1 rfl) ?_
  refine w_get (C := RX5) (T := TX5) (N := 7) (ci := 5) (v := .ref ((g 2))) hx hb hts hin5 hown hK hM 0 (by decide) rfl rfl 4 (by decide) (hts (.fieldLink RX5 34 "MixedBlocks" "part" "LMixedBlocks$Part;") (List.mem_of_getElem? (i := 1) rfl)) (fun _ h9 => h9) rfl dX5_sendPart_3 ?_
  refine va_calli (va_runV (As := []) (rest := []) ⟨hx, hb, hml, hown, hts⟩ (c_X2_firstMix l E (off g 2) q0.1 q0.2.1 q0.2.2) (cwV 0 hts gX5_sendPart_X2_firstMix rfl rfl rfl (by decide +kernel) ⟨Nat.le_of_ble_eq_true rfl, Nat.le_of_ble_eq_true rfl⟩) ⟨wS.blind, (w_recv hK hPa 0 (by decide) rfl (ci := 2) rfl), fun U hU hW => wS.go hPa hK (off_I hI (by decide)) hU hW⟩ rfl rfl hl.1 rfl (lv_room (Nat.le_of_ble_eq_true rfl)) dX5_sendPart_6 ⟨Nat.zero_le _, Nat.zero_le _⟩) hS (fun q _ h => h.elim) (fun q h => h.elim) (fun r_1 uu t H_1 locs_1 ht hvm hw hB hz1 hk1 hS => ?_)
  have hM := hM.same hk1
  have hPa := hPa.same hk1
  have hEl := hEl.same hk1
  have hTr := hTr.same hk1
  have hN := hN.same hk1
  have hHi := hHi.same hk1
  have hHs := hHs.same hk1
  obtain rfl : r_1 = (if q0.1 = -1 then nI q0.2.1 else q0.1) := hw
  rw [hfm]
  refine lv_istore_n (lv' := [(3, .int (nI (fmN q0))), (2, .int 0), (0, .ref ((g 0))), (1, .int (nI mo))]) hx hb dX5_sendPart_9 rfl hl (by decide) rfl (fun ls hl => ?_)
  have hnn : spN q0 mo ≤ mo ∧ spN q0 mo ≤ q0.2.1 + 1 - fmN q0 ∧ (spN q0 mo = mo ∨ spN q0 mo = q0.2.1 + 1 - fmN q0) := by unfold spN; split <;> omega
  have L10 : ∀ (k : Nat) (sn mi : Nat) (se2 : Int32) (rs2 : Nat → RR) (H : Heap) (locs : List Loc) (ls : Array Slot), sn + k = spN q0 mo → mi = fmN q0 + sn → spZ k mi (z.1, z.2.1, se2, rs2) = spZ (spN q0 mo) (fmN q0) z → wP E 2 g (mbF E g ln bf) H → wP E 1 (off g 2) (paF q0.1 q0.2.1 q0.2.2) H → wP E 2 (off g 3) (elF E (off g 3) el.1 el.2) H → rcT E (off g 5) tli tq H → stP E (off g 8) z.1 z.2.1 se2 rs2 H → wP E 2 (off g 20) (hiF E (off g 20) ol ke) H → hiS E (off g 20) zs H → va_S (wF 94 g) s.heap H locs → lv_has ls 4 [(2, .int (nI sn)), (3, .int (nI mi)), (0, .ref ((g 0))), (1, .int (nI mo))] → W p l e (headSpec wsX5_sendPart ({ frames := 6, cells := 0, slots := 0, locals := 151 })).room s m ([.ref ((g 0)), .int (nI mo)] : List Value).toArray below meth c H locs 0 0 (MQ below (va_Qi (fun (r : Int32) (_ : Unit) => r = nI (spN q0 mo)) (fun _ t => MBp E g ln bf (spZ (spN q0 mo) (fmN q0) z) ke hs q0 (t.heap)) (wF 94 g)) ([.ref ((g 0)), .int (nI mo)] : List Value).toArray s 0 0 (wF 94 g)) (F0 m 10 ls []) := by
    intro k
    induction k with
    | zero =>
      intro sn mi se2 rs2 H locs ls hi hmi hres hM hPa hEl hTr hN hHi hHs hS hl
      refine lv_iload_n hx hb dX5_sendPart_10 rfl (lv_at hl 1 rfl) ?_
      refine lv_aload_n hx hb dX5_sendPart_11 rfl (lv_at hl 2 rfl) ?_
      refine w_get (C := RX5) (T := TX5) (N := 7) (ci := 5) (v := .ref ((g 2))) hx hb hts hin5 hown hK hM 0 (by decide) rfl rfl 4 (by decide) (hts (.fieldLink RX5 34 "MixedBlocks" "part" "LMixedBlocks$Part;") (List.mem_of_getElem? (i := 1) rfl)) (fun _ h9 => h9) rfl dX5_sendPart_12 ?_
      refine va_calli (va_runV (As := []) (rest := [.int (nI mi)]) ⟨hx, hb, hml, hown, hts⟩ (c_X2_lastMix l E (off g 2) q0.1 q0.2.1 q0.2.2) (cwV 0 hts gX5_sendPart_X2_lastMix rfl rfl rfl (by decide +kernel) ⟨Nat.le_of_ble_eq_true rfl, Nat.le_of_ble_eq_true rfl⟩) ⟨wS.blind, (w_recv hK hPa 0 (by decide) rfl (ci := 2) rfl), fun U hU hW => wS.go hPa hK (off_I hI (by decide)) hU hW⟩ rfl rfl hl.1 rfl (lv_room (Nat.le_of_ble_eq_true rfl)) dX5_sendPart_15 ⟨Nat.zero_le _, Nat.zero_le _⟩) hS (fun q _ h => h.elim) (fun q h => h.elim) (fun r_2 uu t H_2 locs_2 ht hvm hw hB hz1 hk1 hS => ?_)
      have hM := hM.same hk1
      have hPa := hPa.same hk1
      have hEl := hEl.same hk1
      have hTr := hTr.same hk1
      have hN := hN.same hk1
      have hHi := hHi.same hk1
      have hHs := hHs.same hk1
      obtain rfl : r_2 = (nI q0.2.1) := hw
      refine lv_icmp_gt (tgt := 44) hx hb dX5_sendPart_18 (by decide) (fun c_3 => ?_) (fun c_3 => ?_)
      · have h18 : q0.2.1 < mi := (nI_ltI (a := q0.2.1) (b := mi) (by omega) (by omega)).mp c_3
        refine lv_iload_n hx hb dX5_sendPart_44 rfl (lv_at hl 0 rfl) ?_
        exact W.iret (v := (nI sn)) hx hb hr (fun t ht hW => ⟨⟨_, (), rfl, (by show _ = _; rw [show sn = spN q0 mo from by omega]), (by show MBp E g ln bf (spZ (spN q0 mo) (fmN q0) z) ke hs q0 t.heap; rw [ht, ← hres]; exact ⟨ol, zs, ⟨hol, hke, hzs, hln, hnb2, hnb⟩, hM, ⟨hPa, ⟨(el.1, el.2), hEl⟩, ⟨tli, tq, hTr⟩⟩, hN, hHi, hHs⟩)⟩, hS.F ht⟩) hS.2.2 dX5_sendPart_45
      · have h18 : ¬ q0.2.1 < mi := fun y => c_3 ((nI_ltI (a := q0.2.1) (b := mi) (by omega) (by omega)).mpr y)
        refine lv_iload_n hx hb dX5_sendPart_21 rfl (lv_at hl 0 rfl) ?_
        refine lv_iload_n hx hb dX5_sendPart_22 rfl (lv_at hl 3 rfl) ?_
        refine lv_icmp_ge (tgt := 44) hx hb dX5_sendPart_23 (by decide) (fun c_4 => ?_) (fun c_4 => ?_)
        · have h23 : mo ≤ sn := (nI_leI (a := mo) (b := sn) (by omega) (by omega)).mp c_4
          refine lv_iload_n hx hb dX5_sendPart_44 rfl (lv_at hl 0 rfl) ?_
          exact W.iret (v := (nI sn)) hx hb hr (fun t ht hW => ⟨⟨_, (), rfl, (by show _ = _; rw [show sn = spN q0 mo from by omega]), (by show MBp E g ln bf (spZ (spN q0 mo) (fmN q0) z) ke hs q0 t.heap; rw [ht, ← hres]; exact ⟨ol, zs, ⟨hol, hke, hzs, hln, hnb2, hnb⟩, hM, ⟨hPa, ⟨(el.1, el.2), hEl⟩, ⟨tli, tq, hTr⟩⟩, hN, hHi, hHs⟩)⟩, hS.F ht⟩) hS.2.2 dX5_sendPart_45
        · have h23 : ¬ mo ≤ sn := fun y => c_4 ((nI_leI (a := mo) (b := sn) (by omega) (by omega)).mpr y)
          exfalso
          omega
    | succ k ih =>
      intro sn mi se2 rs2 H locs ls hi hmi hres hM hPa hEl hTr hN hHi hHs hS hl
      refine lv_iload_n hx hb dX5_sendPart_10 rfl (lv_at hl 1 rfl) ?_
      refine lv_aload_n hx hb dX5_sendPart_11 rfl (lv_at hl 2 rfl) ?_
      refine w_get (C := RX5) (T := TX5) (N := 7) (ci := 5) (v := .ref ((g 2))) hx hb hts hin5 hown hK hM 0 (by decide) rfl rfl 4 (by decide) (hts (.fieldLink RX5 34 "MixedBlocks" "part" "LMixedBlocks$Part;") (List.mem_of_getElem? (i := 1) rfl)) (fun _ h9 => h9) rfl dX5_sendPart_12 ?_
      refine va_calli (va_runV (As := []) (rest := [.int (nI mi)]) ⟨hx, hb, hml, hown, hts⟩ (c_X2_lastMix l E (off g 2) q0.1 q0.2.1 q0.2.2) (cwV 0 hts gX5_sendPart_X2_lastMix rfl rfl rfl (by decide +kernel) ⟨Nat.le_of_ble_eq_true rfl, Nat.le_of_ble_eq_true rfl⟩) ⟨wS.blind, (w_recv hK hPa 0 (by decide) rfl (ci := 2) rfl), fun U hU hW => wS.go hPa hK (off_I hI (by decide)) hU hW⟩ rfl rfl hl.1 rfl (lv_room (Nat.le_of_ble_eq_true rfl)) dX5_sendPart_15 ⟨Nat.zero_le _, Nat.zero_le _⟩) hS (fun q _ h => h.elim) (fun q h => h.elim) (fun r_5 uu t H_5 locs_5 ht hvm hw hB hz1 hk1 hS => ?_)
      have hM := hM.same hk1
      have hPa := hPa.same hk1
      have hEl := hEl.same hk1
      have hTr := hTr.same hk1
      have hN := hN.same hk1
      have hHi := hHi.same hk1
      have hHs := hHs.same hk1
      obtain rfl : r_5 = (nI q0.2.1) := hw
      refine lv_icmp_gt (tgt := 44) hx hb dX5_sendPart_18 (by decide) (fun c_6 => ?_) (fun c_6 => ?_)
      · have h18 : q0.2.1 < mi := (nI_ltI (a := q0.2.1) (b := mi) (by omega) (by omega)).mp c_6
        exfalso
        omega
      · have h18 : ¬ q0.2.1 < mi := fun y => c_6 ((nI_ltI (a := q0.2.1) (b := mi) (by omega) (by omega)).mpr y)
        refine lv_iload_n hx hb dX5_sendPart_21 rfl (lv_at hl 0 rfl) ?_
        refine lv_iload_n hx hb dX5_sendPart_22 rfl (lv_at hl 3 rfl) ?_
        refine lv_icmp_ge (tgt := 44) hx hb dX5_sendPart_23 (by decide) (fun c_7 => ?_) (fun c_7 => ?_)
        · have h23 : mo ≤ sn := (nI_leI (a := mo) (b := sn) (by omega) (by omega)).mp c_7
          exfalso
          omega
        · have h23 : ¬ mo ≤ sn := fun y => c_7 ((nI_leI (a := mo) (b := sn) (by omega) (by omega)).mpr y)
          refine lv_aload_n hx hb dX5_sendPart_26 rfl (lv_at hl 2 rfl) ?_
          refine w_get (C := RX5) (T := TX5) (N := 7) (ci := 5) (v := .ref ((g 8))) hx hb hts hin5 hown hK hM 0 (by decide) rfl rfl 0 (by decide) (hts (.fieldLink RX5 12 "MixedBlocks" "now" "LMixedBlocks$State;") (List.mem_of_getElem? (i := 2) rfl)) (fun _ h9 => h9) rfl dX5_sendPart_27 ?_
          refine lv_iload_n hx hb dX5_sendPart_30 rfl (lv_at hl 1 rfl) ?_
          refine va_calli (va_runV (As := [.int (nI mi)]) (rest := []) ⟨hx, hb, hml, hown, hts⟩ (c_X4_sendOne l E (off g 8) z.1 z.2.1 se2 rs2 mi (by omega) hnb2 hnb) (cwV 1 hts gX5_sendPart_X4_sendOne rfl rfl rfl (by decide +kernel) ⟨Nat.le_of_ble_eq_true rfl, Nat.le_of_ble_eq_true rfl⟩) ⟨wSd.blind, (w_recv hK hN.1 0 (by decide) rfl (ci := 4) rfl), fun U hU hW => wSd.go hN hK (off_I hI (by decide)) hdg hS (off_in (o := 8) (n := 12) (by decide)) hU hW⟩ rfl rfl hl.1 rfl (lv_room (Nat.le_of_ble_eq_true rfl)) dX5_sendPart_31 ⟨Nat.zero_le _, Nat.zero_le _⟩) hS (fun q _ h => (off_in (o := 8) (n := 12) (by decide)) q h) (off_in (o := 8) (n := 12) (by decide)) (fun r_8 uu t H_8 locs_8 ht hvm hw hB hz1 hk1 hS => ?_)
          rw [ht] at hB
          have hN := hB
          have hM := hM.other hk1 (off_M hI (by decide) (by decide)).out
          have hPa := hPa.other hk1 (off_X hI (by decide) (by decide) (by decide)).out
          have hEl := hEl.other hk1 (off_X hI (by decide) (by decide) (by decide)).out
          have hTr := hTr.other hk1 (off_X hI (by decide) (by decide) (by decide)).out
          have hHi := hHi.other hk1 (off_X hI (by decide) (by decide) (by decide)).out
          have hHs := hHs.other hk1 (off_X hI (by decide) (by decide) (by decide)).out
          obtain rfl : r_8 = (sumR (mixS z.1 z.2.1 mi) rs2 3) := hw
          refine lv_pop hx hb dX5_sendPart_34 rfl ?_
          refine lv_iinc (v := (nI (sn + 1))) (lv' := [(2, .int (nI (sn + 1))), (3, .int (nI mi)), (0, .ref ((g 0))), (1, .int (nI mo))]) hx hb dX5_sendPart_35 hl (k := 0) rfl (nI_1 _) (by decide) rfl (fun ls hl => ?_)
          refine lv_iinc (v := (nI (mi + 1))) (lv' := [(3, .int (nI (mi + 1))), (2, .int (nI (sn + 1))), (0, .ref ((g 0))), (1, .int (nI mo))]) hx hb dX5_sendPart_38 hl (k := 1) rfl (nI_1 _) (by decide) rfl (fun ls hl => ?_)
          refine lv_goto (tgt := 10) hx hb dX5_sendPart_41 (by decide) ?_
          have hres2 : spZ k (mi + 1) (z.1, z.2.1, se2 + 1, mapR (gotR (mixS z.1 z.2.1 mi)) rs2 3) = spZ (spN q0 mo) (fmN q0) z := by rw [← hres]; rfl
          exact ih (sn + 1) (mi + 1) (se2 + 1) (mapR (gotR (mixS z.1 z.2.1 mi)) rs2 3) _ _ ls (by omega) (by omega) hres2 hM hPa hEl hTr hN hHi hHs hS (lv_sub hl [1, 0, 2, 3] rfl)
  exact L10 (spN q0 mo) 0 (fmN q0) z.2.2.1 z.2.2.2 _ _ ls (by omega) (by omega) rfl hM hPa hEl hTr hN hHi hHs hS (lv_sub hl [1, 0, 2, 3] rfl)
