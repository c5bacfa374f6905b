set_option maxHeartbeats 4000000 in
set_option maxRecDepth 100000 in
theorem c_X3_get (l : Launch) (E : wE) (g : Nat → Nat) (li : Bool) (kb : Int32) (al : Nat → Int32) (L : List Int32) (go tn lo : Int32) (x : Int32) : Met l yX3_get wsX3_get ({ frames := 4, cells := 0, slots := 0, locals := 86 }) (va_Pc [.ref ((g 0)), .int x] (wS E 3 g (rcP E g li kb al L go tn lo))) (va_Qi (fun (r : Int32) (_ : Unit) => r = (getS x (kb, al, L, go, tn, lo)).1) (fun _ t => rcT E g li (getS x (kb, al, L, go, tn, lo)).2 (t.heap)) (wF 3 g)) 0 0 (wF 3 g) := by
  refine Met.ofW (cc := cX3_get) (maxL := 4) (ret := (some .int)) (by decide) rfl ?_
  intro p e s m args below meth c s₁ B hml hv
  obtain ⟨rfl, ⟨hln, lf, hlf, hP⟩, hK, hI⟩ := hv
  have hx := B.exec
  have hb := B.bytes
  have hr := B.returns
  have hts := atoms_spec (ws := wsX3_get) B.pre
  have hown : s.vm.findClass RX3 = some m.cls := findClass_of_methodNamed B.named
  have hlocks := B.notSynchronized
  have hS : va_S (wF 3 g) s.heap s.heap [] := va_S.rf
  have hin3 : ∀ w ∈ wsX30, w ∈ wsX3_get := by decide +kernel
  have hA : ∀ k, k < 3 → (wF 3 g) (g k) := wF_in
  have hl := lv_entry ([.ref ((g 0)), .int x]) (n := 4) (Nat.le_of_ble_eq_true rfl)
  rw [lg_entry_eq]
  generalize (lg_sl ([.ref ((g 0)), .int x]) ++ List.replicate (4 - (lg_sl ([.ref ((g 0)), .int x])).length) Slot.unset).toArray = ls at hl ⊢
  have hl : lv_has ls 4 [(0, .ref ((g 0))), (1, .int x)] := hl
  refine lv_aload_n hx hb dX3_get_0 rfl (lv_at hl 0 rfl) ?_
  refine lv_dup hx hb dX3_get_1 rfl ?_
  refine w_get (C := RX3) (T := TX3) (N := 8) (ci := 3) (v := .int go) hx hb hts hin3 hown hK hP 0 (by decide) rfl rfl 5 (by decide) (hts (.fieldLink RX3 33 "MixedBlocks$Receiver" "got" "I") (List.mem_of_getElem? (i := 1) rfl)) (fun _ h9 => h9) rfl dX3_get_2 ?_
  refine lv_iconst (v := 1) hx hb dX3_get_5 (by decide) ?_
  refine lv_iadd hx hb dX3_get_6 ?_
  refine w_put (C := RX3) (T := TX3) (N := 8) (ci := 3) (v := .int ((go + 1))) (ty := .int) hx hb hts hin3 tyX3 tyX3_ok nmX3 hown hK hP hI hA hS 0 (by decide) rfl rfl 5 (by decide) (hts (.fieldLink RX3 33 "MixedBlocks$Receiver" "got" "I") (List.mem_of_getElem? (i := 1) rfl)) (fun _ h9 => h9) rfl (by decide +kernel) rfl rfl (Nat.le_of_ble_eq_true rfl) dX3_get_7 (rcF E g li kb al lf L.length (go + 1) tn lo) rfl rc_ne0 (fun H_1 locs_1 hP hS => ?_)
  refine lv_aload_n hx hb dX3_get_10 rfl (lv_at hl 0 rfl) ?_
  refine lv_iload_n hx hb dX3_get_11 rfl (lv_at hl 1 rfl) ?_
  refine va_calli (va_runV (As := [.int x]) (rest := []) ⟨hx, hb, hml, hown, hts⟩ (c_X3_leftOf l E g li kb al L (go + 1) tn lo x) (cwV 1 hts gX3_get_X3_leftOf rfl rfl rfl (by decide +kernel) ⟨Nat.le_of_ble_eq_true rfl, Nat.le_of_ble_eq_true rfl⟩) ⟨wS.blind, (w_recv hK hP 0 (by decide) rfl (ci := 3) rfl), fun U hU hW => wS.go ⟨hln, _, hlf, hP⟩ hK hI hU hW⟩ rfl rfl hl.1 rfl (lv_room (Nat.le_of_ble_eq_true rfl)) dX3_get_12 ⟨Nat.zero_le _, Nat.zero_le _⟩) hS (fun q _ h => h.elim) (fun q h => h.elim) (fun r_2 uu t H_2 locs_2 ht hvm hw hB hz1 hk1 hS => ?_)
  have hP := hP.same hk1
  obtain rfl : r_2 = (leftOf al x) := hw
  refine lv_istore_n (lv' := [(2, .int ((leftOf al x))), (0, .ref ((g 0))), (1, .int x)]) hx hb dX3_get_15 rfl hl (by decide) rfl (fun ls hl => ?_)
  refine lv_iload_n hx hb dX3_get_16 rfl (lv_at hl 0 rfl) ?_
  refine va_calli (va_runSN (As := [.int ((leftOf al x))]) (rest := []) ⟨hx, hb, hml, hown, hts⟩ (c_X5_blockCountOf l (leftOf al x)) ⟨va_cnB 1 hts gX3_get_X5_blockCountOf_n58 rfl rfl rfl (hK.2 _ nm_X3_58) (hts (.initialized RX5) (List.mem_of_getElem? (i := 12) rfl)) (by decide +kernel) ⟨Nat.le_of_ble_eq_true rfl, Nat.le_of_ble_eq_true rfl⟩, (hts (.static yX5_blockCountOf) (List.mem_of_getElem? (i := 14) rfl)), trivial⟩ ⟨wU_blind, fun U hU hW => ⟨rfl, trivial⟩⟩ rfl rfl hl.1 rfl (lv_room (Nat.le_of_ble_eq_true rfl)) dX3_get_17 ⟨Nat.zero_le _, Nat.zero_le _⟩) hS (fun q _ h => h.elim) (fun q h => h.elim) (fun r_3 uu t H_3 locs_3 ht hvm hw hB hz1 hk1 hS => ?_)
  have hP := hP.same hk1
  obtain rfl : r_3 = (bcI (leftOf al x)) := hw
  refine lv_istore_n (lv' := [(3, .int ((bcI (leftOf al x)))), (2, .int ((leftOf al x))), (0, .ref ((g 0))), (1, .int x)]) hx hb dX3_get_20 rfl hl (by decide) rfl (fun ls hl => ?_)
  refine lv_iload_n hx hb dX3_get_21 rfl (lv_at hl 0 rfl) ?_
  refine lv_iconst (v := 2) hx hb dX3_get_22 (by decide) ?_
  refine lv_icmp_ge (tgt := 32) hx hb dX3_get_23 (by decide) (fun c_4 => ?_) (fun c_4 => ?_)
  · refine lv_aload_n hx hb dX3_get_32 rfl (lv_at hl 2 rfl) ?_
    refine w_get (C := RX3) (T := TX3) (N := 8) (ci := 3) (v := .int (nI L.length)) hx hb hts hin3 hown hK hP 0 (by decide) rfl rfl 4 (by decide) (hts (.fieldLink RX3 30 "MixedBlocks$Receiver" "waits" "I") (List.mem_of_getElem? (i := 2) rfl)) (fun _ h9 => h9) rfl dX3_get_33 ?_
    refine lv_if_lt (tgt := 74) hx hb dX3_get_36 (by decide) (fun c_5 => ?_) (fun c_5 => ?_)
    · exact absurd c_5 (nI_pos (by omega))
    · refine lv_aload_n hx hb dX3_get_39 rfl (lv_at hl 2 rfl) ?_
      refine w_get (C := RX3) (T := TX3) (N := 8) (ci := 3) (v := .int (nI L.length)) hx hb hts hin3 hown hK hP 0 (by decide) rfl rfl 4 (by decide) (hts (.fieldLink RX3 30 "MixedBlocks$Receiver" "waits" "I") (List.mem_of_getElem? (i := 2) rfl)) (fun _ h9 => h9) rfl dX3_get_40 ?_
      refine lv_aload_n hx hb dX3_get_43 rfl (lv_at hl 2 rfl) ?_
      refine w_get (C := RX3) (T := TX3) (N := 8) (ci := 3) (v := .ref ((g 2))) hx hb hts hin3 hown hK hP 0 (by decide) rfl rfl 3 (by decide) (hts (.fieldLink RX3 15 "MixedBlocks$Receiver" "left" "[I") (List.mem_of_getElem? (i := 3) rfl)) (fun _ h9 => h9) rfl dX3_get_44 ?_
      refine w_alen (v := 24) hx hb hK hP 2 (by decide) rfl rfl dX3_get_47 ?_
      refine lv_icmp_ge (tgt := 74) hx hb dX3_get_48 (by decide) (fun c_6 => ?_) (fun c_6 => ?_)
      · refine lv_aload_n hx hb dX3_get_74 rfl (lv_at hl 2 rfl) ?_
        refine lv_dup hx hb dX3_get_75 rfl ?_
        refine w_get (C := RX3) (T := TX3) (N := 8) (ci := 3) (v := .int lo) hx hb hts hin3 hown hK hP 0 (by decide) rfl rfl 7 (by decide) (hts (.fieldLink RX3 39 "MixedBlocks$Receiver" "lost" "I") (List.mem_of_getElem? (i := 4) rfl)) (fun _ h9 => h9) rfl dX3_get_76 ?_
        refine lv_iconst (v := 1) hx hb dX3_get_79 (by decide) ?_
        refine lv_iadd hx hb dX3_get_80 ?_
        refine w_put (C := RX3) (T := TX3) (N := 8) (ci := 3) (v := .int ((lo + 1))) (ty := .int) hx hb hts hin3 tyX3 tyX3_ok nmX3 hown hK hP hI hA hS 0 (by decide) rfl rfl 7 (by decide) (hts (.fieldLink RX3 39 "MixedBlocks$Receiver" "lost" "I") (List.mem_of_getElem? (i := 4) rfl)) (fun _ h9 => h9) rfl (by decide +kernel) rfl rfl (Nat.le_of_ble_eq_true rfl) dX3_get_81 (rcF E g li kb al lf L.length (go + 1) tn (lo + 1)) rfl rc_ne0 (fun H_7 locs_7 hP hS => ?_)
        refine lv_iconst (v := 0) hx hb dX3_get_84 (by decide) ?_
        exact W.iret (v := 0) hx hb hr (fun t ht hW => ⟨⟨_, (), rfl, (by show _ = _; rw [getS_l (x := x) (q := (kb, al, L, go, tn, lo)) c_4 ((nI_leI (a := 24) (b := L.length) (by omega) (by omega)).mp c_6)]), (by show rcT _ _ _ _ _; rw [ht, getS_l (x := x) (q := (kb, al, L, go, tn, lo)) c_4 ((nI_leI (a := 24) (b := L.length) (by omega) (by omega)).mp c_6)]; exact ⟨hln, _, hlf, hP⟩)⟩, hS.F ht⟩) hS.2.2 dX3_get_85
      · have hlt0 : L.length < 24 := Nat.lt_of_not_le (fun z => c_6 ((nI_leI (a := 24) (b := L.length) (by omega) (by omega)).mpr z))
        refine lv_aload_n hx hb dX3_get_51 rfl (lv_at hl 2 rfl) ?_
        refine w_get (C := RX3) (T := TX3) (N := 8) (ci := 3) (v := .ref ((g 2))) hx hb hts hin3 hown hK hP 0 (by decide) rfl rfl 3 (by decide) (hts (.fieldLink RX3 15 "MixedBlocks$Receiver" "left" "[I") (List.mem_of_getElem? (i := 3) rfl)) (fun _ h9 => h9) rfl dX3_get_52 ?_
        refine lv_aload_n hx hb dX3_get_55 rfl (lv_at hl 2 rfl) ?_
        refine w_get (C := RX3) (T := TX3) (N := 8) (ci := 3) (v := .int (nI L.length)) hx hb hts hin3 hown hK hP 0 (by decide) rfl rfl 4 (by decide) (hts (.fieldLink RX3 30 "MixedBlocks$Receiver" "waits" "I") (List.mem_of_getElem? (i := 2) rfl)) (fun _ h9 => h9) rfl dX3_get_56 ?_
        refine lv_iload_n hx hb dX3_get_59 rfl (lv_at hl 1 rfl) ?_
        refine w_iast hx hb hK hP hI hA hS 2 (by decide) rfl (vp_in_nI (by omega) (by decide)) dX3_get_60 (rcF E g li kb al (upd lf L.length (leftOf al x)) L.length (go + 1) tn lo) (congrArg (fun z : Nat => (Sum.inl (E.2.1, 24, Sum.inl (upd lf z (leftOf al x))) : va_E)) (nI_clamp (by omega)).symm) rc_ne2 (fun H_8 locs_8 hP hS => ?_)
        refine lv_aload_n hx hb dX3_get_61 rfl (lv_at hl 2 rfl) ?_
        refine lv_dup hx hb dX3_get_62 rfl ?_
        refine w_get (C := RX3) (T := TX3) (N := 8) (ci := 3) (v := .int (nI L.length)) hx hb hts hin3 hown hK hP 0 (by decide) rfl rfl 4 (by decide) (hts (.fieldLink RX3 30 "MixedBlocks$Receiver" "waits" "I") (List.mem_of_getElem? (i := 2) rfl)) (fun _ h9 => h9) rfl dX3_get_63 ?_
        refine lv_iconst (v := 1) hx hb dX3_get_66 (by decide) ?_
        refine lv_iadd hx hb dX3_get_67 ?_
        rw [show nI L.length + 1 = nI (L.length + 1) from nI_1 _]
        refine w_put (C := RX3) (T := TX3) (N := 8) (ci := 3) (v := .int (nI (L.length + 1))) (ty := .int) hx hb hts hin3 tyX3 tyX3_ok nmX3 hown hK hP hI hA hS 0 (by decide) rfl rfl 4 (by decide) (hts (.fieldLink RX3 30 "MixedBlocks$Receiver" "waits" "I") (List.mem_of_getElem? (i := 2) rfl)) (fun _ h9 => h9) rfl (by decide +kernel) rfl rfl (Nat.le_of_ble_eq_true rfl) dX3_get_68 (rcF E g li kb al (upd lf L.length (leftOf al x)) (L.length + 1) (go + 1) tn lo) rfl rc_ne0 (fun H_9 locs_9 hP hS => ?_)
        refine lv_goto (tgt := 84) hx hb dX3_get_71 (by decide) ?_
        refine lv_iconst (v := 0) hx hb dX3_get_84 (by decide) ?_
        have hlt : ¬ 24 ≤ L.length := (fun z => c_6 ((nI_leI (a := 24) (b := L.length) (by omega) (by omega)).mpr z))
        exact W.iret (v := 0) hx hb hr (fun t ht hW => ⟨⟨_, (), rfl, (by show _ = _; rw [getS_w (x := x) (q := (kb, al, L, go, tn, lo)) c_4 hlt]), (by show rcT _ _ _ _ _; rw [ht, getS_w (x := x) (q := (kb, al, L, go, tn, lo)) c_4 hlt]; show rcP E g li kb al (L ++ [leftOf al x]) (go + 1) tn lo _; exact ⟨by rw [List.length_append, List.length_singleton]; omega, _, push_get hlf, by rw [List.length_append, List.length_singleton]; exact hP⟩)⟩, hS.F ht⟩) hS.2.2 dX3_get_85
  · refine lv_aload_n hx hb dX3_get_26 rfl (lv_at hl 2 rfl) ?_
    refine lv_iload_n hx hb dX3_get_27 rfl (lv_at hl 1 rfl) ?_
    refine va_calli (va_runV (As := [.int ((leftOf al x))]) (rest := []) ⟨hx, hb, hml, hown, hts⟩ (c_X3_peelFrom l E g li kb al L (go + 1) tn lo (leftOf al x)) (cwV 1 hts gX3_get_X3_peelFrom rfl rfl rfl (by decide +kernel) ⟨Nat.le_of_ble_eq_true rfl, Nat.le_of_ble_eq_true rfl⟩) ⟨wS.blind, (w_recv hK hP 0 (by decide) rfl (ci := 3) rfl), fun U hU hW => wS.go ⟨hln, _, hlf, hP⟩ hK hI hU hW⟩ rfl rfl hl.1 rfl (lv_room (Nat.le_of_ble_eq_true rfl)) dX3_get_28 ⟨Nat.zero_le _, Nat.zero_le _⟩) hS (fun q _ h => h) (fun q h => h) (fun r_10 uu t H_10 locs_10 ht hvm hw hB hz1 hk1 hS => ?_)
    rw [ht] at hB
    obtain ⟨hln_10, lf_10, hlf_10, hP⟩ := hB
    obtain rfl : r_10 = (peelS L.length (leftOf al x) (kb, al, L, tn, 0)).2.2.2.2 := hw
    exact W.iret (v := ((peelS L.length (leftOf al x) (kb, al, L, tn, 0)).2.2.2.2)) hx hb hr (fun t ht hW => ⟨⟨_, (), rfl, (by show _ = _; rw [getS_p (x := x) (q := (kb, al, L, go, tn, lo)) c_4]), (by show rcT _ _ _ _ _; rw [ht, getS_p (x := x) (q := (kb, al, L, go, tn, lo)) c_4]; exact ⟨hln_10, _, hlf_10, hP⟩)⟩, hS.F ht⟩) hS.2.2 dX3_get_31
set_option maxHeartbeats 4000000 in
set_option maxRecDepth 100000 in
theorem c_X3_forgetAll (l : Launch) (E : wE) (g : Nat → Nat) (li : Bool) (kb : Int32) (al : Nat → Int32) (L : List Int32) (go tn lo : Int32) : Met l yX3_forgetAll wsX3_forgetAll ({ frames := 0, cells := 0, slots := 0, locals := 0 }) (va_Pc [.ref ((g 0))] (wS E 3 g (rcP E g li kb al L go tn lo))) (va_Qv (fun (_ : Unit) => True) (fun _ t => rcP E g li 0 (fun _ => 0) [] go tn lo (t.heap)) (wF 3 g)) 0 0 (wF 3 g) := by
  refine Met.ofW (cc := cX3_forgetAll) (maxL := 2) (ret := none) (by decide) rfl ?_
  intro p e s m args below meth c s₁ B hml hv
  obtain ⟨rfl, ⟨hln, lf, hlf, hP⟩, hK, hI⟩ := hv
  have hx := B.exec
  have hb := B.bytes
  have hr := B.returns
  have hts := atoms_spec (ws := wsX3_forgetAll) B.pre
  have hown : s.vm.findClass RX3 = some m.cls := findClass_of_methodNamed B.named
  have hlocks := B.notSynchronized
  have hS : va_S (wF 3 g) s.heap s.heap [] := va_S.rf
  have hin3 : ∀ w ∈ wsX30, w ∈ wsX3_forgetAll := by decide +kernel
  have hA : ∀ k, k < 3 → (wF 3 g) (g k) := wF_in
  have hl := lv_entry ([.ref ((g 0))]) (n := 2) (Nat.le_of_ble_eq_true rfl)
  rw [lg_entry_eq]
  generalize (lg_sl ([.ref ((g 0))]) ++ List.replicate (2 - (lg_sl ([.ref ((g 0))])).length) Slot.unset).toArray = ls at hl ⊢
  have hl : lv_has ls 2 [(0, .ref ((g 0)))] := hl
  refine lv_aload_n hx hb dX3_forgetAll_0 rfl (lv_at hl 0 rfl) ?_
  refine lv_iconst (v := 0) hx hb dX3_forgetAll_1 (by decide) ?_
  refine w_put (C := RX3) (T := TX3) (N := 8) (ci := 3) (v := .int 0) (ty := .int) hx hb hts hin3 tyX3 tyX3_ok nmX3 hown hK hP hI hA hS 0 (by decide) rfl rfl 1 (by decide) (hts (.fieldLink RX3 22 "MixedBlocks$Receiver" "knownBlocks" "I") (List.mem_of_getElem? (i := 1) rfl)) (fun _ h9 => h9) rfl (by decide +kernel) rfl rfl (Nat.le_of_ble_eq_true rfl) dX3_forgetAll_2 (rcF E g li 0 al lf L.length go tn lo) rfl rc_ne0 (fun H_1 locs_1 hP hS => ?_)
  refine lv_aload_n hx hb dX3_forgetAll_5 rfl (lv_at hl 0 rfl) ?_
  refine lv_iconst (v := 0) hx hb dX3_forgetAll_6 (by decide) ?_
  refine w_put (C := RX3) (T := TX3) (N := 8) (ci := 3) (v := .int 0) (ty := .int) hx hb hts hin3 tyX3 tyX3_ok nmX3 hown hK hP hI hA hS 0 (by decide) rfl rfl 4 (by decide) (hts (.fieldLink RX3 30 "MixedBlocks$Receiver" "waits" "I") (List.mem_of_getElem? (i := 2) rfl)) (fun _ h9 => h9) rfl (by decide +kernel) rfl rfl (Nat.le_of_ble_eq_true rfl) dX3_forgetAll_7 (rcF E g li 0 al lf 0 go tn lo) rfl rc_ne0 (fun H_2 locs_2 hP hS => ?_)
  refine lv_iconst (v := 0) hx hb dX3_forgetAll_10 (by decide) ?_
  refine lv_istore_n (lv' := [(1, .int 0), (0, .ref ((g 0)))]) hx hb dX3_forgetAll_11 rfl hl (by decide) rfl (fun ls hl => ?_)
  rw [← zrA_0 al] at hP
  have L12 : ∀ (k : Nat) (i : Nat) (H : Heap) (locs : List Loc) (ls : Array Slot), i + k = 12 → wP E 3 g (rcF E g li 0 (zrA al i) lf 0 go tn lo) H → va_S (wF 3 g) s.heap H locs → lv_has ls 2 [(1, .int (nI i)), (0, .ref ((g 0)))] → W p l e (headSpec wsX3_forgetAll ({ frames := 0, cells := 0, slots := 0, locals := 0 })).room s m ([.ref ((g 0))] : List Value).toArray below meth c H locs 0 0 (MQ below (va_Qv (fun (_ : Unit) => True) (fun _ t => rcP E g li 0 (fun _ => 0) [] go tn lo (t.heap)) (wF 3 g)) ([.ref ((g 0))] : List Value).toArray s 0 0 (wF 3 g)) (F0 m 12 ls []) := by
    intro k
    induction k with
    | zero =>
      intro i H locs ls hi hP hS hl
      refine lv_iload_n hx hb dX3_forgetAll_12 rfl (lv_at hl 0 rfl) ?_
      refine lv_aload_n hx hb dX3_forgetAll_13 rfl (lv_at hl 1 rfl) ?_
      refine w_get (C := RX3) (T := TX3) (N := 8) (ci := 3) (v := .ref ((g 1))) hx hb hts hin3 hown hK hP 0 (by decide) rfl rfl 2 (by decide) (hts (.fieldLink RX3 9 "MixedBlocks$Receiver" "alone" "[I") (List.mem_of_getElem? (i := 3) rfl)) (fun _ h9 => h9) rfl dX3_forgetAll_14 ?_
      refine w_alen (v := 12) hx hb hK hP 1 (by decide) rfl rfl dX3_forgetAll_17 ?_
      refine lv_icmp_ge (tgt := 34) hx hb dX3_forgetAll_18 (by decide) (fun c_3 => ?_) (fun c_3 => ?_)
      · have n_3 : 12 ≤ i := (nI_leI (a := 12) (b := i) (by omega) (by omega)).mp c_3
        rw [show i = 12 from by omega] at hP
        exact W.vret hx hb hr (fun t ht hW => ⟨⟨(), rfl, trivial, ⟨Nat.zero_le _, lf, (fun j hj => absurd hj (Nat.not_lt_zero j)), by rw [ht]; exact rcF_al hP (fun j hj => zrA_in hj)⟩⟩, hS.F ht⟩) hS.2.2 dX3_forgetAll_34
      · have n_3 : ¬ 12 ≤ i := fun z => c_3 ((nI_leI (a := 12) (b := i) (by omega) (by omega)).mpr z)
        exfalso
        omega
    | succ k ih =>
      intro i H locs ls hi hP hS hl
      refine lv_iload_n hx hb dX3_forgetAll_12 rfl (lv_at hl 0 rfl) ?_
      refine lv_aload_n hx hb dX3_forgetAll_13 rfl (lv_at hl 1 rfl) ?_
      refine w_get (C := RX3) (T := TX3) (N := 8) (ci := 3) (v := .ref ((g 1))) hx hb hts hin3 hown hK hP 0 (by decide) rfl rfl 2 (by decide) (hts (.fieldLink RX3 9 "MixedBlocks$Receiver" "alone" "[I") (List.mem_of_getElem? (i := 3) rfl)) (fun _ h9 => h9) rfl dX3_forgetAll_14 ?_
      refine w_alen (v := 12) hx hb hK hP 1 (by decide) rfl rfl dX3_forgetAll_17 ?_
      refine lv_icmp_ge (tgt := 34) hx hb dX3_forgetAll_18 (by decide) (fun c_4 => ?_) (fun c_4 => ?_)
      · have n_4 : 12 ≤ i := (nI_leI (a := 12) (b := i) (by omega) (by omega)).mp c_4
        exfalso
        omega
      · have n_4 : ¬ 12 ≤ i := fun z => c_4 ((nI_leI (a := 12) (b := i) (by omega) (by omega)).mpr z)
        refine lv_aload_n hx hb dX3_forgetAll_21 rfl (lv_at hl 1 rfl) ?_
        refine w_get (C := RX3) (T := TX3) (N := 8) (ci := 3) (v := .ref ((g 1))) hx hb hts hin3 hown hK hP 0 (by decide) rfl rfl 2 (by decide) (hts (.fieldLink RX3 9 "MixedBlocks$Receiver" "alone" "[I") (List.mem_of_getElem? (i := 3) rfl)) (fun _ h9 => h9) rfl dX3_forgetAll_22 ?_
        refine lv_iload_n hx hb dX3_forgetAll_25 rfl (lv_at hl 0 rfl) ?_
        refine lv_iconst (v := 0) hx hb dX3_forgetAll_26 (by decide) ?_
        refine w_iast hx hb hK hP hI hA hS 1 (by decide) rfl (vp_in_nI (by omega) (by decide)) dX3_forgetAll_27 (rcF E g li 0 (upd (zrA al i) i 0) lf 0 go tn lo) (congrArg (fun z : Nat => (Sum.inl (E.2.1, 12, Sum.inl (upd (zrA al i) z 0)) : va_E)) (nI_clamp (by omega)).symm) rc_ne1 (fun H_5 locs_5 hP hS => ?_)
        refine lv_iinc (v := (nI (i + 1))) (lv' := [(1, .int (nI (i + 1))), (0, .ref ((g 0)))]) hx hb dX3_forgetAll_28 hl (k := 0) rfl (nI_1 _) (by decide) rfl (fun ls hl => ?_)
        refine lv_goto (tgt := 12) hx hb dX3_forgetAll_31 (by decide) ?_
        rw [zrA_s] at hP
        exact ih (i + 1) _ _ ls (by omega) hP hS (lv_sub hl [0, 1] rfl)
  exact L12 12 0 _ _ ls rfl hP hS (lv_sub hl [0, 1] rfl)
set_option maxHeartbeats 4000000 in
set_option maxRecDepth 100000 in
theorem c_X0_begin (l : Launch) (E : wE) (g : Nat → Nat) (le : Nat → Int32) (ro : Int32)  : Met l yX0_begin wsX0_begin ({ frames := 0, cells := 0, slots := 0, locals := 0 }) (va_Pc [.ref ((g 0))] (wS E 2 g (elP E g (le, ro)))) (va_Qv (fun (_ : Unit) => True) (fun _ t => elP E g ((fun _ => 0), 0) (t.heap)) (wF 2 g)) 0 0 (wF 2 g) := by
  refine Met.ofW (cc := cX0_begin) (maxL := 2) (ret := none) (by decide) rfl ?_
  intro p e s m args below meth c s₁ B hml hv
  obtain ⟨rfl, hP, hK, hI⟩ := hv
  have hx := B.exec
  have hb := B.bytes
  have hr := B.returns
  have hts := atoms_spec (ws := wsX0_begin) B.pre
  have hown : s.vm.findClass RX0 = some m.cls := findClass_of_methodNamed B.named
  have hlocks := B.notSynchronized
  have hS : va_S (wF 2 g) s.heap s.heap [] := va_S.rf
  have hin0 : ∀ w ∈ wsX00, w ∈ wsX0_begin := by decide +kernel
  have hA : ∀ k, k < 2 → (wF 2 g) (g k) := wF_in
  have hl := lv_entry ([.ref ((g 0))]) (n := 2) (Nat.le_of_ble_eq_true rfl)
  rw [lg_entry_eq]
  generalize (lg_sl ([.ref ((g 0))]) ++ List.replicate (2 - (lg_sl ([.ref ((g 0))])).length) Slot.unset).toArray = ls at hl ⊢
  have hl : lv_has ls 2 [(0, .ref ((g 0)))] := hl
  have hP : wP E 2 g (elF E g le ro) s.heap := hP
  refine lv_aload_n hx hb dX0_begin_0 rfl (lv_at hl 0 rfl) ?_
  refine lv_iconst (v := 0) hx hb dX0_begin_1 (by decide) ?_
  refine w_put (C := RX0) (T := TX0) (N := 2) (ci := 0) (v := .int 0) (ty := .int) hx hb hts hin0 tyX0 tyX0_ok nmX0 hown hK hP hI hA hS 0 (by decide) rfl rfl 1 (by decide) (hts (.fieldLink RX0 15 "MixedBlocks$Elimination" "rows" "I") (List.mem_of_getElem? (i := 1) rfl)) (fun _ h9 => h9) rfl (by decide +kernel) rfl rfl (Nat.le_of_ble_eq_true rfl) dX0_begin_2 (elF E g le 0) rfl el_ne0 (fun H_1 locs_1 hP hS => ?_)
  refine lv_iconst (v := 0) hx hb dX0_begin_5 (by decide) ?_
  refine lv_istore_n (lv' := [(1, .int 0), (0, .ref ((g 0)))]) hx hb dX0_begin_6 rfl hl (by decide) rfl (fun ls hl => ?_)
  rw [← zrA_0 le] at hP
  have L7 : ∀ (k : Nat) (i : Nat) (H : Heap) (locs : List Loc) (ls : Array Slot), i + k = 12 → wP E 2 g (elF E g (zrA le i) 0) H → va_S (wF 2 g) s.heap H locs → lv_has ls 2 [(1, .int (nI i)), (0, .ref ((g 0)))] → W p l e (headSpec wsX0_begin ({ frames := 0, cells := 0, slots := 0, locals := 0 })).room s m ([.ref ((g 0))] : List Value).toArray below meth c H locs 0 0 (MQ below (va_Qv (fun (_ : Unit) => True) (fun _ t => elP E g ((fun _ => 0), 0) (t.heap)) (wF 2 g)) ([.ref ((g 0))] : List Value).toArray s 0 0 (wF 2 g)) (F0 m 7 ls []) := by
    intro k
    induction k with
    | zero =>
      intro i H locs ls hi hP hS hl
      refine lv_iload_n hx hb dX0_begin_7 rfl (lv_at hl 0 rfl) ?_
      refine lv_aload_n hx hb dX0_begin_8 rfl (lv_at hl 1 rfl) ?_
      refine w_get (C := RX0) (T := TX0) (N := 2) (ci := 0) (v := .ref ((g 1))) hx hb hts hin0 hown hK hP 0 (by decide) rfl rfl 0 (by decide) (hts (.fieldLink RX0 9 "MixedBlocks$Elimination" "leading" "[I") (List.mem_of_getElem? (i := 2) rfl)) (fun _ h9 => h9) rfl dX0_begin_9 ?_
      refine w_alen (v := 12) hx hb hK hP 1 (by decide) rfl rfl dX0_begin_12 ?_
      refine lv_icmp_ge (tgt := 29) hx hb dX0_begin_13 (by decide) (fun c_2 => ?_) (fun c_2 => ?_)
      · have n_2 : 12 ≤ i := (nI_leI (a := 12) (b := i) (by omega) (by omega)).mp c_2
        rw [show i = 12 from by omega] at hP
        exact W.vret hx hb hr (fun t ht hW => ⟨⟨(), rfl, trivial, (by show elP E g _ t.heap; rw [ht]; exact elF_le hP (fun j hj => zrA_in hj))⟩, hS.F ht⟩) hS.2.2 dX0_begin_29
      · have n_2 : ¬ 12 ≤ i := fun z => c_2 ((nI_leI (a := 12) (b := i) (by omega) (by omega)).mpr z)
        exfalso
        omega
    | succ k ih =>
      intro i H locs ls hi hP hS hl
      refine lv_iload_n hx hb dX0_begin_7 rfl (lv_at hl 0 rfl) ?_
      refine lv_aload_n hx hb dX0_begin_8 rfl (lv_at hl 1 rfl) ?_
      refine w_get (C := RX0) (T := TX0) (N := 2) (ci := 0) (v := .ref ((g 1))) hx hb hts hin0 hown hK hP 0 (by decide) rfl rfl 0 (by decide) (hts (.fieldLink RX0 9 "MixedBlocks$Elimination" "leading" "[I") (List.mem_of_getElem? (i := 2) rfl)) (fun _ h9 => h9) rfl dX0_begin_9 ?_
      refine w_alen (v := 12) hx hb hK hP 1 (by decide) rfl rfl dX0_begin_12 ?_
      refine lv_icmp_ge (tgt := 29) hx hb dX0_begin_13 (by decide) (fun c_3 => ?_) (fun c_3 => ?_)
      · have n_3 : 12 ≤ i := (nI_leI (a := 12) (b := i) (by omega) (by omega)).mp c_3
        exfalso
        omega
      · have n_3 : ¬ 12 ≤ i := fun z => c_3 ((nI_leI (a := 12) (b := i) (by omega) (by omega)).mpr z)
        refine lv_aload_n hx hb dX0_begin_16 rfl (lv_at hl 1 rfl) ?_
        refine w_get (C := RX0) (T := TX0) (N := 2) (ci := 0) (v := .ref ((g 1))) hx hb hts hin0 hown hK hP 0 (by decide) rfl rfl 0 (by decide) (hts (.fieldLink RX0 9 "MixedBlocks$Elimination" "leading" "[I") (List.mem_of_getElem? (i := 2) rfl)) (fun _ h9 => h9) rfl dX0_begin_17 ?_
        refine lv_iload_n hx hb dX0_begin_20 rfl (lv_at hl 0 rfl) ?_
        refine lv_iconst (v := 0) hx hb dX0_begin_21 (by decide) ?_
        refine w_iast hx hb hK hP hI hA hS 1 (by decide) rfl (vp_in_nI (by omega) (by decide)) dX0_begin_22 (elF E g (upd (zrA le i) i 0) 0) (congrArg (fun z : Nat => (Sum.inl (E.2.1, 12, Sum.inl (upd (zrA le i) z 0)) : va_E)) (nI_clamp (by omega)).symm) el_ne1 (fun H_4 locs_4 hP hS => ?_)
        refine lv_iinc (v := (nI (i + 1))) (lv' := [(1, .int (nI (i + 1))), (0, .ref ((g 0)))]) hx hb dX0_begin_23 hl (k := 0) rfl (nI_1 _) (by decide) rfl (fun ls hl => ?_)
        refine lv_goto (tgt := 7) hx hb dX0_begin_26 (by decide) ?_
        rw [zrA_s] at hP
        exact ih (i + 1) _ _ ls (by omega) hP hS (lv_sub hl [0, 1] rfl)
  exact L7 12 0 _ _ ls rfl hP hS (lv_sub hl [0, 1] rfl)
set_option maxHeartbeats 4000000 in
set_option maxRecDepth 100000 in
theorem c_X0_rowOf (l : Launch) (E : wE) (g : Nat → Nat) (le : Nat → Int32) (ro : Int32) (b : Nat) (hb12 : b < 12) : Met l yX0_rowOf wsX0_rowOf ({ frames := 0, cells := 0, slots := 0, locals := 0 }) (va_Pc [.ref ((g 0)), .int (nI b)] (wS E 2 g (elP E g (le, ro)))) (va_Qi (fun (r : Int32) (_ : Unit) => r = le b) (fun _ t => True) wN) 0 0 wN := by
  refine Met.ofW (cc := cX0_rowOf) (maxL := 2) (ret := (some .int)) (by decide) rfl ?_
  intro p e s m args below meth c s₁ B hml hv
  obtain ⟨rfl, hP, hK, hI⟩ := hv
  have hx := B.exec
  have hb := B.bytes
  have hr := B.returns
  have hts := atoms_spec (ws := wsX0_rowOf) B.pre
  have hown : s.vm.findClass RX0 = some m.cls := findClass_of_methodNamed B.named
  have hlocks := B.notSynchronized
  have hS : va_S wN s.heap s.heap [] := va_S.rf
  have hin0 : ∀ w ∈ wsX00, w ∈ wsX0_rowOf := by decide +kernel
  have hl := lv_entry ([.ref ((g 0)), .int (nI b)]) (n := 2) (Nat.le_of_ble_eq_true rfl)
  rw [lg_entry_eq]
  generalize (lg_sl ([.ref ((g 0)), .int (nI b)]) ++ List.replicate (2 - (lg_sl ([.ref ((g 0)), .int (nI b)])).length) Slot.unset).toArray = ls at hl ⊢
  have hl : lv_has ls 2 [(0, .ref ((g 0))), (1, .int (nI b))] := hl
  have hP : wP E 2 g (elF E g le ro) s.heap := hP
  refine lv_iload_n hx hb dX0_rowOf_0 rfl (lv_at hl 1 rfl) ?_
  refine lv_if_lt (tgt := 22) hx hb dX0_rowOf_1 (by decide) (fun c_1 => ?_) (fun c_1 => ?_)
  · exact absurd c_1 (nI_pos (by omega))
  · refine lv_iload_n hx hb dX0_rowOf_4 rfl (lv_at hl 1 rfl) ?_
    refine lv_aload_n hx hb dX0_rowOf_5 rfl (lv_at hl 0 rfl) ?_
    refine w_get (C := RX0) (T := TX0) (N := 2) (ci := 0) (v := .ref ((g 1))) hx hb hts hin0 hown hK hP 0 (by decide) rfl rfl 0 (by decide) (hts (.fieldLink RX0 9 "MixedBlocks$Elimination" "leading" "[I") (List.mem_of_getElem? (i := 1) rfl)) (fun _ h9 => h9) rfl dX0_rowOf_6 ?_
    refine w_alen (v := 12) hx hb hK hP 1 (by decide) rfl rfl dX0_rowOf_9 ?_
    refine lv_icmp_ge (tgt := 22) hx hb dX0_rowOf_10 (by decide) (fun c_2 => ?_) (fun c_2 => ?_)
    · exact absurd ((nI_leI (a := 12) (by omega) (by omega)).mp c_2) (by omega)
    · refine lv_aload_n hx hb dX0_rowOf_13 rfl (lv_at hl 0 rfl) ?_
      refine w_get (C := RX0) (T := TX0) (N := 2) (ci := 0) (v := .ref ((g 1))) hx hb hts hin0 hown hK hP 0 (by decide) rfl rfl 0 (by decide) (hts (.fieldLink RX0 9 "MixedBlocks$Elimination" "leading" "[I") (List.mem_of_getElem? (i := 1) rfl)) (fun _ h9 => h9) rfl dX0_rowOf_14 ?_
      refine lv_iload_n hx hb dX0_rowOf_17 rfl (lv_at hl 1 rfl) ?_
      refine w_iald hx hb hK hP 1 (by decide) rfl (vp_in_nI (by omega) (by decide)) dX0_rowOf_18 ?_
      rw [nI_clamp (by omega)]
      refine lv_goto (tgt := 23) hx hb dX0_rowOf_19 (by decide) ?_
      exact W.iret (v := (le b)) hx hb hr (fun t ht hW => ⟨⟨_, (), rfl, (by first | rfl | (simp only [if_neg c_1, if_neg c_2]; done) | (simp only [if_neg c_1, if_neg c_2]; rfl)), trivial⟩, hS.F ht⟩) hS.2.2 dX0_rowOf_23
set_option maxHeartbeats 4000000 in
set_option maxRecDepth 100000 in
theorem c_X0_tells (l : Launch) (E : wE) (g : Nat → Nat) (le : Nat → Int32) (ro : Int32) (b : Nat) (hb12 : b < 12) : Met l yX0_tells wsX0_tells ({ frames := 1, cells := 0, slots := 0, locals := 21 }) (va_Pc [.ref ((g 0)), .int (nI b)] (wS E 2 g (elP E g (le, ro)))) (va_Qi (fun (r : Int32) (_ : Unit) => r = (if le b &&& 4095 = (1 : Int32) <<< (nI b &&& 31) then 1 else 0)) (fun _ t => True) wN) 0 0 wN := by
  refine Met.ofW (cc := cX0_tells) (maxL := 2) (ret := (some .boolean)) (by decide) rfl ?_
  intro p e s m args below meth c s₁ B hml hv
  obtain ⟨rfl, hP, hK, hI⟩ := hv
  have hx := B.exec
  have hb := B.bytes
  have hr := B.returns
  have hts := atoms_spec (ws := wsX0_tells) B.pre
  have hown : s.vm.findClass RX0 = some m.cls := findClass_of_methodNamed B.named
  have hlocks := B.notSynchronized
  have hS : va_S wN s.heap s.heap [] := va_S.rf
  have hl := lv_entry ([.ref ((g 0)), .int (nI b)]) (n := 2) (Nat.le_of_ble_eq_true rfl)
  rw [lg_entry_eq]
  generalize (lg_sl ([.ref ((g 0)), .int (nI b)]) ++ List.replicate (2 - (lg_sl ([.ref ((g 0)), .int (nI b)])).length) Slot.unset).toArray = ls at hl ⊢
  have hl : lv_has ls 2 [(0, .ref ((g 0))), (1, .int (nI b))] := hl
  have hP : wP E 2 g (elF E g le ro) s.heap := hP
  refine lv_aload_n hx hb dX0_tells_0 rfl (lv_at hl 0 rfl) ?_
  refine lv_iload_n hx hb dX0_tells_1 rfl (lv_at hl 1 rfl) ?_
  refine va_calli (va_runV (As := [.int (nI b)]) (rest := []) ⟨hx, hb, hml, hown, hts⟩ (c_X0_rowOf l E g le ro b hb12) (cwV 1 hts gX0_tells_X0_rowOf rfl rfl rfl (by decide +kernel) ⟨Nat.le_of_ble_eq_true rfl, Nat.le_of_ble_eq_true rfl⟩) ⟨wS.blind, (w_recv hK hP 0 (by decide) rfl (ci := 0) rfl), fun U hU hW => wS.go hP hK hI hU hW⟩ rfl rfl hl.1 rfl (lv_room (Nat.le_of_ble_eq_true rfl)) dX0_tells_2 ⟨Nat.zero_le _, Nat.zero_le _⟩) hS (fun q _ h => h.elim) (fun q h => h.elim) (fun r_1 uu t H_1 locs_1 ht hvm hw hB hz1 hk1 hS => ?_)
  have hP := hP.same hk1
  obtain rfl : r_1 = (le b) := hw
  refine va_calli (va_runSN (As := [.int ((le b))]) (rest := []) ⟨hx, hb, hml, hown, hts⟩ (c_X5_blocksOf l (le b)) ⟨va_cnB 1 hts gX0_tells_X5_blocksOf_n23 rfl rfl rfl (hK.2 _ nm_X0_23) (hts (.initialized RX5) (List.mem_of_getElem? (i := 8) rfl)) (by decide +kernel) ⟨Nat.le_of_ble_eq_true rfl, Nat.le_of_ble_eq_true rfl⟩, (hts (.static yX5_blocksOf) (List.mem_of_getElem? (i := 7) rfl)), trivial⟩ ⟨wU_blind, fun U hU hW => ⟨rfl, trivial⟩⟩ rfl rfl hl.1 rfl (lv_room (Nat.le_of_ble_eq_true rfl)) dX0_tells_5 ⟨Nat.zero_le _, Nat.zero_le _⟩) hS (fun q _ h => h.elim) (fun q h => h.elim) (fun r_2 uu t H_2 locs_2 ht hvm hw hB hz1 hk1 hS => ?_)
  have hP := hP.same hk1
  obtain rfl : r_2 = ((le b) &&& 4095) := hw
  refine lv_iconst (v := 1) hx hb dX0_tells_8 (by decide) ?_
  refine lv_iload_n hx hb dX0_tells_9 rfl (lv_at hl 1 rfl) ?_
  refine lv_ishl hx hb dX0_tells_10 ?_
  refine lv_icmp_ne (tgt := 18) hx hb dX0_tells_11 (by decide) (fun c_3 => ?_) (fun c_3 => ?_)
  · refine lv_iconst (v := 0) hx hb dX0_tells_18 (by decide) ?_
    exact W.zret (v := 0) hx hb hr rfl (fun t ht hW => ⟨⟨_, (), rfl, (by first | rfl | (simp only [if_neg c_3]; done) | (simp only [if_neg c_3]; rfl)), trivial⟩, hS.F ht⟩) hS.2.2 dX0_tells_19
  · refine lv_iconst (v := 1) hx hb dX0_tells_14 (by decide) ?_
    refine lv_goto (tgt := 19) hx hb dX0_tells_15 (by decide) ?_
    exact W.zret (v := 1) hx hb hr rfl (fun t ht hW => ⟨⟨_, (), rfl, (by first | rfl | (simp only [if_pos c_3]; done) | (simp only [if_pos c_3]; rfl)), trivial⟩, hS.F ht⟩) hS.2.2 dX0_tells_19
set_option maxHeartbeats 4000000 in
set_option maxRecDepth 100000 in
theorem c_X0_add (l : Launch) (E : wE) (g : Nat → Nat) (le : Nat → Int32) (ro : Int32) (x : Int32) : Met l yX0_add wsX0_add ({ frames := 2, cells := 0, slots := 0, locals := 40 }) (va_Pc [.ref ((g 0)), .int x] (wS E 2 g (elP E g (le, ro)))) (va_Qv (fun (_ : Unit) => True) (fun _ t => elP E g (addS x (le, ro)) (t.heap)) (wF 2 g)) 0 0 (wF 2 g) := by
  refine Met.ofW (cc := cX0_add) (maxL := 5) (ret := none) (by decide) rfl ?_
  intro p e s m args below meth c s₁ B hml hv
  obtain ⟨rfl, hP, hK, hI⟩ := hv
  have hx := B.exec
  have hb := B.bytes
  have hr := B.returns
  have hts := atoms_spec (ws := wsX0_add) B.pre
  have hown : s.vm.findClass RX0 = some m.cls := findClass_of_methodNamed B.named
  have hlocks := B.notSynchronized
  have hS : va_S (wF 2 g) s.heap s.heap [] := va_S.rf
  have hin0 : ∀ w ∈ wsX00, w ∈ wsX0_add := by decide +kernel
  have hA : ∀ k, k < 2 → (wF 2 g) (g k) := wF_in
  have hl := lv_entry ([.ref ((g 0)), .int x]) (n := 5) (Nat.le_of_ble_eq_true rfl)
  rw [lg_entry_eq]
  generalize (lg_sl ([.ref ((g 0)), .int x]) ++ List.replicate (5 - (lg_sl ([.ref ((g 0)), .int x])).length) Slot.unset).toArray = ls at hl ⊢
  have hl : lv_has ls 5 [(0, .ref ((g 0))), (1, .int x)] := hl
  have hP : wP E 2 g (elF E g le ro) s.heap := hP
  refine lv_iload_n hx hb dX0_add_0 rfl (lv_at hl 1 rfl) ?_
  refine lv_istore_n (lv' := [(2, .int x), (0, .ref ((g 0))), (1, .int x)]) hx hb dX0_add_1 rfl hl (by decide) rfl (fun ls hl => ?_)
  refine lv_iconst (v := 0) hx hb dX0_add_2 (by decide) ?_
  refine lv_istore_n (lv' := [(3, .int 0), (2, .int x), (0, .ref ((g 0))), (1, .int x)]) hx hb dX0_add_3 rfl hl (by decide) rfl (fun ls hl => ?_)
  have L4 : ∀ (k : Nat) (i : Nat) (r : Int32) (H : Heap) (locs : List Loc) (ls : Array Slot), i + k = 12 → itr (fun i r => if hldI r (nI i) = 0 then r else r ^^^ le i) k i r = leftOf le x → wP E 2 g (elF E g le ro) H → va_S (wF 2 g) s.heap H locs → lv_has ls 5 [(3, .int (nI i)), (2, .int r), (0, .ref ((g 0))), (1, .int x)] → W p l e (headSpec wsX0_add ({ frames := 2, cells := 0, slots := 0, locals := 40 })).room s m ([.ref ((g 0)), .int x] : List Value).toArray below meth c H locs 0 0 (MQ below (va_Qv (fun (_ : Unit) => True) (fun _ t => elP E g (addS x (le, ro)) (t.heap)) (wF 2 g)) ([.ref ((g 0)), .int x] : List Value).toArray s 0 0 (wF 2 g)) (F0 m 4 ls []) := by
    intro k
    induction k with
    | zero =>
      intro i r H locs ls hi hres hP hS hl
      refine lv_iload_n hx hb dX0_add_4 rfl (lv_at hl 0 rfl) ?_
      refine lv_aload_n hx hb dX0_add_5 rfl (lv_at hl 2 rfl) ?_
      refine w_get (C := RX0) (T := TX0) (N := 2) (ci := 0) (v := .ref ((g 1))) hx hb hts hin0 hown hK hP 0 (by decide) rfl rfl 0 (by decide) (hts (.fieldLink RX0 9 "MixedBlocks$Elimination" "leading" "[I") (List.mem_of_getElem? (i := 1) rfl)) (fun _ h9 => h9) rfl dX0_add_6 ?_
      refine w_alen (v := 12) hx hb hK hP 1 (by decide) rfl rfl dX0_add_9 ?_
      refine lv_icmp_ge (tgt := 36) hx hb dX0_add_10 (by decide) (fun c_1 => ?_) (fun c_1 => ?_)
      · have n_1 : 12 ≤ i := (nI_leI (a := 12) (b := i) (by omega) (by omega)).mp c_1
        have er : r = leftOf le x := hres
        refine lv_iload_n hx hb dX0_add_36 rfl (lv_at hl 1 rfl) ?_
        refine va_calli (va_runSN (As := [.int r]) (rest := []) ⟨hx, hb, hml, hown, hts⟩ (c_X5_blocksOf l r) ⟨va_cnB 1 hts gX0_add_X5_blocksOf_n23 rfl rfl rfl (hK.2 _ nm_X0_23) (hts (.initialized RX5) (List.mem_of_getElem? (i := 4) rfl)) (by decide +kernel) ⟨Nat.le_of_ble_eq_true rfl, Nat.le_of_ble_eq_true rfl⟩, (hts (.static yX5_blocksOf) (List.mem_of_getElem? (i := 6) rfl)), trivial⟩ ⟨wU_blind, fun U hU hW => ⟨rfl, trivial⟩⟩ rfl rfl hl.1 rfl (lv_room (Nat.le_of_ble_eq_true rfl)) dX0_add_37 ⟨Nat.zero_le _, Nat.zero_le _⟩) hS (fun q _ h => h.elim) (fun q h => h.elim) (fun r_2 uu t H_2 locs_2 ht hvm hw hB hz1 hk1 hS => ?_)
        have hP := hP.same hk1
        obtain rfl : r_2 = (r &&& 4095) := hw
        refine lv_if_ne (tgt := 44) hx hb dX0_add_40 (by decide) (fun c_3 => ?_) (fun c_3 => ?_)
        · refine lv_iload_n hx hb dX0_add_44 rfl (lv_at hl 1 rfl) ?_
          refine va_calli (va_runS (As := [.int r]) (rest := []) ⟨hx, hb, hml, hown, hts⟩ (c_X0_lowestOf l r) (va_cwS 1 hts gX0_add_X0_lowestOf rfl rfl rfl (by decide +kernel) ⟨Nat.le_of_ble_eq_true rfl, Nat.le_of_ble_eq_true rfl⟩) ⟨wU_blind, fun U hU hW => ⟨rfl, trivial⟩⟩ rfl rfl hl.1 rfl (lv_room (Nat.le_of_ble_eq_true rfl)) dX0_add_45 ⟨Nat.zero_le _, Nat.zero_le _⟩) hS (fun q _ h => h.elim) (fun q h => h.elim) (fun r_4 uu t H_4 locs_4 ht hvm hw hB hz1 hk1 hS => ?_)
          have hP := hP.same hk1
          obtain rfl : r_4 = (swar ((r &&& -r) - 1)) := hw
          obtain ⟨u, hu, eu, eu2⟩ := lowI_in c_3
          rw [show swar ((r &&& -r) - 1) = nI u from eu]
          refine lv_istore_n (lv' := [(3, .int (nI u)), (2, .int r), (0, .ref ((g 0))), (1, .int x)]) hx hb dX0_add_48 rfl hl (by decide) rfl (fun ls hl => ?_)
          refine lv_iconst (v := 0) hx hb dX0_add_49 (by decide) ?_
          refine lv_istore (lv' := [(4, .int 0), (3, .int (nI u)), (2, .int r), (0, .ref ((g 0))), (1, .int x)]) hx hb dX0_add_50 hl (by decide) rfl (fun ls hl => ?_)
          rw [← clrA_0 r u le] at hP
          have L52 : ∀ (k2 : Nat) (i2 : Nat) (H : Heap) (locs : List Loc) (ls : Array Slot), i2 + k2 = 12 → wP E 2 g (elF E g (clrA r u le i2) ro) H → va_S (wF 2 g) s.heap H locs → lv_has ls 5 [(4, .int (nI i2)), (3, .int (nI u)), (2, .int r), (0, .ref ((g 0))), (1, .int x)] → W p l e (headSpec wsX0_add ({ frames := 2, cells := 0, slots := 0, locals := 40 })).room s m ([.ref ((g 0)), .int x] : List Value).toArray below meth c H locs 0 0 (MQ below (va_Qv (fun (_ : Unit) => True) (fun _ t => elP E g (addS x (le, ro)) (t.heap)) (wF 2 g)) ([.ref ((g 0)), .int x] : List Value).toArray s 0 0 (wF 2 g)) (F0 m 52 ls []) := by
            intro k2
            induction k2 with
            | zero =>
              intro i2 H locs ls hi2 hP hS hl
              refine lv_iload hx hb dX0_add_52 (lv_at hl 0 rfl) ?_
              refine lv_aload_n hx hb dX0_add_54 rfl (lv_at hl 3 rfl) ?_
              refine w_get (C := RX0) (T := TX0) (N := 2) (ci := 0) (v := .ref ((g 1))) hx hb hts hin0 hown hK hP 0 (by decide) rfl rfl 0 (by decide) (hts (.fieldLink RX0 9 "MixedBlocks$Elimination" "leading" "[I") (List.mem_of_getElem? (i := 1) rfl)) (fun _ h9 => h9) rfl dX0_add_55 ?_
              refine w_alen (v := 12) hx hb hK hP 1 (by decide) rfl rfl dX0_add_58 ?_
              refine lv_icmp_ge (tgt := 93) hx hb dX0_add_59 (by decide) (fun c_5 => ?_) (fun c_5 => ?_)
              · have n_5 : 12 ≤ i2 := (nI_leI (a := 12) (b := i2) (by omega) (by omega)).mp c_5
                refine lv_iload_n hx hb dX0_add_93 rfl (lv_at hl 1 rfl) ?_
                refine lv_if_lt (tgt := 123) hx hb dX0_add_94 (by decide) (fun c_6 => ?_) (fun c_6 => ?_)
                · exact absurd c_6 (nI_pos (by omega))
                · refine lv_iload_n hx hb dX0_add_97 rfl (lv_at hl 1 rfl) ?_
                  refine lv_aload_n hx hb dX0_add_98 rfl (lv_at hl 3 rfl) ?_
                  refine w_get (C := RX0) (T := TX0) (N := 2) (ci := 0) (v := .ref ((g 1))) hx hb hts hin0 hown hK hP 0 (by decide) rfl rfl 0 (by decide) (hts (.fieldLink RX0 9 "MixedBlocks$Elimination" "leading" "[I") (List.mem_of_getElem? (i := 1) rfl)) (fun _ h9 => h9) rfl dX0_add_99 ?_
                  refine w_alen (v := 12) hx hb hK hP 1 (by decide) rfl rfl dX0_add_102 ?_
                  refine lv_icmp_ge (tgt := 123) hx hb dX0_add_103 (by decide) (fun c_7 => ?_) (fun c_7 => ?_)
                  · have n_7 : 12 ≤ u := (nI_leI (a := 12) (b := u) (by omega) (by omega)).mp c_7
                    exfalso
                    omega
                  · have n_7 : ¬ 12 ≤ u := fun z => c_7 ((nI_leI (a := 12) (b := u) (by omega) (by omega)).mpr z)
                    refine lv_aload_n hx hb dX0_add_106 rfl (lv_at hl 3 rfl) ?_
                    refine w_get (C := RX0) (T := TX0) (N := 2) (ci := 0) (v := .ref ((g 1))) hx hb hts hin0 hown hK hP 0 (by decide) rfl rfl 0 (by decide) (hts (.fieldLink RX0 9 "MixedBlocks$Elimination" "leading" "[I") (List.mem_of_getElem? (i := 1) rfl)) (fun _ h9 => h9) rfl dX0_add_107 ?_
                    refine lv_iload_n hx hb dX0_add_110 rfl (lv_at hl 1 rfl) ?_
                    refine lv_iload_n hx hb dX0_add_111 rfl (lv_at hl 2 rfl) ?_
                    refine w_iast hx hb hK hP hI hA hS 1 (by decide) rfl (vp_in_nI (by omega) (by decide)) dX0_add_112 (elF E g (upd (clrA r u le i2) u r) ro) (congrArg (fun z : Nat => (Sum.inl (E.2.1, 12, Sum.inl (upd (clrA r u le i2) z r)) : va_E)) (nI_clamp (by omega)).symm) el_ne1 (fun H_8 locs_8 hP hS => ?_)
                    refine lv_aload_n hx hb dX0_add_113 rfl (lv_at hl 3 rfl) ?_
                    refine lv_dup hx hb dX0_add_114 rfl ?_
                    refine w_get (C := RX0) (T := TX0) (N := 2) (ci := 0) (v := .int ro) hx hb hts hin0 hown hK hP 0 (by decide) rfl rfl 1 (by decide) (hts (.fieldLink RX0 15 "MixedBlocks$Elimination" "rows" "I") (List.mem_of_getElem? (i := 2) rfl)) (fun _ h9 => h9) rfl dX0_add_115 ?_
                    refine lv_iconst (v := 1) hx hb dX0_add_118 (by decide) ?_
                    refine lv_iadd hx hb dX0_add_119 ?_
                    refine w_put (C := RX0) (T := TX0) (N := 2) (ci := 0) (v := .int ((ro + 1))) (ty := .int) hx hb hts hin0 tyX0 tyX0_ok nmX0 hown hK hP hI hA hS 0 (by decide) rfl rfl 1 (by decide) (hts (.fieldLink RX0 15 "MixedBlocks$Elimination" "rows" "I") (List.mem_of_getElem? (i := 2) rfl)) (fun _ h9 => h9) rfl (by decide +kernel) rfl rfl (Nat.le_of_ble_eq_true rfl) dX0_add_120 (elF E g (upd (clrA r u le i2) u r) (ro + 1)) rfl el_ne0 (fun H_9 locs_9 hP hS => ?_)
                    rw [show i2 = 12 from by omega] at hP
                    exact W.vret hx hb hr (fun t ht hW => ⟨⟨(), rfl, trivial, (by show elP E g (if leftOf le x &&& 4095 = 0 then (le, ro) else (upd (clrA (leftOf le x) (lowN (leftOf le x)) le 12) (lowN (leftOf le x)) (leftOf le x), ro + 1)) t.heap; rw [← er, if_neg c_3, ht, show lowN r = u from eu2]; exact hP)⟩, hS.F ht⟩) hS.2.2 dX0_add_123
              · have n_5 : ¬ 12 ≤ i2 := fun z => c_5 ((nI_leI (a := 12) (b := i2) (by omega) (by omega)).mpr z)
                exfalso
                omega
            | succ k2 ih =>
              intro i2 H locs ls hi2 hP hS hl
              refine lv_iload hx hb dX0_add_52 (lv_at hl 0 rfl) ?_
              refine lv_aload_n hx hb dX0_add_54 rfl (lv_at hl 3 rfl) ?_
              refine w_get (C := RX0) (T := TX0) (N := 2) (ci := 0) (v := .ref ((g 1))) hx hb hts hin0 hown hK hP 0 (by decide) rfl rfl 0 (by decide) (hts (.fieldLink RX0 9 "MixedBlocks$Elimination" "leading" "[I") (List.mem_of_getElem? (i := 1) rfl)) (fun _ h9 => h9) rfl dX0_add_55 ?_
              refine w_alen (v := 12) hx hb hK hP 1 (by decide) rfl rfl dX0_add_58 ?_
              refine lv_icmp_ge (tgt := 93) hx hb dX0_add_59 (by decide) (fun c_10 => ?_) (fun c_10 => ?_)
              · have n_10 : 12 ≤ i2 := (nI_leI (a := 12) (b := i2) (by omega) (by omega)).mp c_10
                exfalso
                omega
              · have n_10 : ¬ 12 ≤ i2 := fun z => c_10 ((nI_leI (a := 12) (b := i2) (by omega) (by omega)).mpr z)
                refine lv_aload_n hx hb dX0_add_62 rfl (lv_at hl 3 rfl) ?_
                refine w_get (C := RX0) (T := TX0) (N := 2) (ci := 0) (v := .ref ((g 1))) hx hb hts hin0 hown hK hP 0 (by decide) rfl rfl 0 (by decide) (hts (.fieldLink RX0 9 "MixedBlocks$Elimination" "leading" "[I") (List.mem_of_getElem? (i := 1) rfl)) (fun _ h9 => h9) rfl dX0_add_63 ?_
                refine lv_iload hx hb dX0_add_66 (lv_at hl 0 rfl) ?_
                refine w_iald hx hb hK hP 1 (by decide) rfl (vp_in_nI (by omega) (by decide)) dX0_add_68 ?_
                rw [nI_clamp (by omega)]
                rw [clrA_at]
                refine lv_iload_n hx hb dX0_add_69 rfl (lv_at hl 1 rfl) ?_
                refine va_calli (va_runSN (As := [.int ((le i2)), .int (nI u)]) (rest := []) ⟨hx, hb, hml, hown, hts⟩ (c_X5_holds l (le i2) (nI u)) ⟨va_cnB 2 hts gX0_add_X5_holds_n19 rfl rfl rfl (hK.2 _ nm_X0_19) (hts (.initialized RX5) (List.mem_of_getElem? (i := 4) rfl)) (by decide +kernel) ⟨Nat.le_of_ble_eq_true rfl, Nat.le_of_ble_eq_true rfl⟩, (hts (.static yX5_holds) (List.mem_of_getElem? (i := 3) rfl)), trivial⟩ ⟨wU_blind, fun U hU hW => ⟨rfl, trivial⟩⟩ rfl rfl hl.1 rfl (lv_room (Nat.le_of_ble_eq_true rfl)) dX0_add_70 ⟨Nat.zero_le _, Nat.zero_le _⟩) hS (fun q _ h => h.elim) (fun q h => h.elim) (fun r_11 uu t H_11 locs_11 ht hvm hw hB hz1 hk1 hS => ?_)
                have hP := hP.same hk1
                obtain rfl : r_11 = (hldI (le i2) (nI u)) := hw
                refine lv_if_eq (tgt := 87) hx hb dX0_add_73 (by decide) (fun c_12 => ?_) (fun c_12 => ?_)
                · refine lv_iinc (v := (nI (i2 + 1))) (lv' := [(4, .int (nI (i2 + 1))), (3, .int (nI u)), (2, .int r), (0, .ref ((g 0))), (1, .int x)]) hx hb dX0_add_87 hl (k := 0) rfl (nI_1 _) (by decide) rfl (fun ls hl => ?_)
                  refine lv_goto (tgt := 52) hx hb dX0_add_90 (by decide) ?_
                  rw [clrA_z c_12] at hP
                  exact ih (i2 + 1) _ _ ls (by omega) hP hS (lv_sub hl [0, 1, 2, 3, 4] rfl)
                · refine lv_aload_n hx hb dX0_add_76 rfl (lv_at hl 3 rfl) ?_
                  refine w_get (C := RX0) (T := TX0) (N := 2) (ci := 0) (v := .ref ((g 1))) hx hb hts hin0 hown hK hP 0 (by decide) rfl rfl 0 (by decide) (hts (.fieldLink RX0 9 "MixedBlocks$Elimination" "leading" "[I") (List.mem_of_getElem? (i := 1) rfl)) (fun _ h9 => h9) rfl dX0_add_77 ?_
                  refine lv_iload hx hb dX0_add_80 (lv_at hl 0 rfl) ?_
                  refine lv_dup2_11 hx hb dX0_add_82 rfl rfl ?_
                  refine w_iald hx hb hK hP 1 (by decide) rfl (vp_in_nI (by omega) (by decide)) dX0_add_83 ?_
                  rw [nI_clamp (by omega)]
                  rw [clrA_at]
                  refine lv_iload_n hx hb dX0_add_84 rfl (lv_at hl 2 rfl) ?_
                  refine lv_ixor hx hb dX0_add_85 ?_
                  refine w_iast hx hb hK hP hI hA hS 1 (by decide) rfl (vp_in_nI (by omega) (by decide)) dX0_add_86 (elF E g (upd (clrA r u le i2) i2 ((le i2) ^^^ r)) ro) (congrArg (fun z : Nat => (Sum.inl (E.2.1, 12, Sum.inl (upd (clrA r u le i2) z ((le i2) ^^^ r))) : va_E)) (nI_clamp (by omega)).symm) el_ne1 (fun H_13 locs_13 hP hS => ?_)
                  refine lv_iinc (v := (nI (i2 + 1))) (lv' := [(4, .int (nI (i2 + 1))), (3, .int (nI u)), (2, .int r), (0, .ref ((g 0))), (1, .int x)]) hx hb dX0_add_87 hl (k := 0) rfl (nI_1 _) (by decide) rfl (fun ls hl => ?_)
                  refine lv_goto (tgt := 52) hx hb dX0_add_90 (by decide) ?_
                  rw [clrA_y c_12] at hP
                  exact ih (i2 + 1) _ _ ls (by omega) hP hS (lv_sub hl [0, 1, 2, 3, 4] rfl)
          exact L52 12 0 _ _ ls rfl hP hS (lv_sub hl [0, 1, 2, 3, 4] rfl)
        · exact W.vret hx hb hr (fun t ht hW => ⟨⟨(), rfl, trivial, (by show elP E g (if leftOf le x &&& 4095 = 0 then (le, ro) else (upd (clrA (leftOf le x) (lowN (leftOf le x)) le 12) (lowN (leftOf le x)) (leftOf le x), ro + 1)) t.heap; rw [← er, if_pos c_3, ht]; exact hP)⟩, hS.F ht⟩) hS.2.2 dX0_add_43
      · have n_1 : ¬ 12 ≤ i := fun z => c_1 ((nI_leI (a := 12) (b := i) (by omega) (by omega)).mpr z)
        exfalso
        omega
    | succ k ih =>
      intro i r H locs ls hi hres hP hS hl
      refine lv_iload_n hx hb dX0_add_4 rfl (lv_at hl 0 rfl) ?_
      refine lv_aload_n hx hb dX0_add_5 rfl (lv_at hl 2 rfl) ?_
      refine w_get (C := RX0) (T := TX0) (N := 2) (ci := 0) (v := .ref ((g 1))) hx hb hts hin0 hown hK hP 0 (by decide) rfl rfl 0 (by decide) (hts (.fieldLink RX0 9 "MixedBlocks$Elimination" "leading" "[I") (List.mem_of_getElem? (i := 1) rfl)) (fun _ h9 => h9) rfl dX0_add_6 ?_
      refine w_alen (v := 12) hx hb hK hP 1 (by decide) rfl rfl dX0_add_9 ?_
      refine lv_icmp_ge (tgt := 36) hx hb dX0_add_10 (by decide) (fun c_14 => ?_) (fun c_14 => ?_)
      · have n_14 : 12 ≤ i := (nI_leI (a := 12) (b := i) (by omega) (by omega)).mp c_14
        exfalso
        omega
      · have n_14 : ¬ 12 ≤ i := fun z => c_14 ((nI_leI (a := 12) (b := i) (by omega) (by omega)).mpr z)
        refine lv_iload_n hx hb dX0_add_13 rfl (lv_at hl 1 rfl) ?_
        refine lv_iload_n hx hb dX0_add_14 rfl (lv_at hl 0 rfl) ?_
        refine va_calli (va_runSN (As := [.int r, .int (nI i)]) (rest := []) ⟨hx, hb, hml, hown, hts⟩ (c_X5_holds l r (nI i)) ⟨va_cnB 2 hts gX0_add_X5_holds_n19 rfl rfl rfl (hK.2 _ nm_X0_19) (hts (.initialized RX5) (List.mem_of_getElem? (i := 4) rfl)) (by decide +kernel) ⟨Nat.le_of_ble_eq_true rfl, Nat.le_of_ble_eq_true rfl⟩, (hts (.static yX5_holds) (List.mem_of_getElem? (i := 3) rfl)), trivial⟩ ⟨wU_blind, fun U hU hW => ⟨rfl, trivial⟩⟩ rfl rfl hl.1 rfl (lv_room (Nat.le_of_ble_eq_true rfl)) dX0_add_15 ⟨Nat.zero_le _, Nat.zero_le _⟩) hS (fun q _ h => h.elim) (fun q h => h.elim) (fun r_15 uu t H_15 locs_15 ht hvm hw hB hz1 hk1 hS => ?_)
        have hP := hP.same hk1
        obtain rfl : r_15 = (hldI r (nI i)) := hw
        refine lv_if_eq (tgt := 30) hx hb dX0_add_18 (by decide) (fun c_16 => ?_) (fun c_16 => ?_)
        · refine lv_iinc (v := (nI (i + 1))) (lv' := [(3, .int (nI (i + 1))), (2, .int r), (0, .ref ((g 0))), (1, .int x)]) hx hb dX0_add_30 hl (k := 0) rfl (nI_1 _) (by decide) rfl (fun ls hl => ?_)
          refine lv_goto (tgt := 4) hx hb dX0_add_33 (by decide) ?_
          have hres2 : itr (fun i r => if hldI r (nI i) = 0 then r else r ^^^ le i) k (i + 1) r = leftOf le x := by rw [← hres, itr_s]; simp only [if_neg c_14, if_pos c_16]
          exact ih (i + 1) r _ _ ls (by omega) hres2 hP hS (lv_sub hl [0, 1, 2, 3] rfl)
        · refine lv_iload_n hx hb dX0_add_21 rfl (lv_at hl 1 rfl) ?_
          refine lv_aload_n hx hb dX0_add_22 rfl (lv_at hl 2 rfl) ?_
          refine w_get (C := RX0) (T := TX0) (N := 2) (ci := 0) (v := .ref ((g 1))) hx hb hts hin0 hown hK hP 0 (by decide) rfl rfl 0 (by decide) (hts (.fieldLink RX0 9 "MixedBlocks$Elimination" "leading" "[I") (List.mem_of_getElem? (i := 1) rfl)) (fun _ h9 => h9) rfl dX0_add_23 ?_
          refine lv_iload_n hx hb dX0_add_26 rfl (lv_at hl 0 rfl) ?_
          refine w_iald hx hb hK hP 1 (by decide) rfl (vp_in_nI (by omega) (by decide)) dX0_add_27 ?_
          rw [nI_clamp (by omega)]
          refine lv_ixor hx hb dX0_add_28 ?_
          refine lv_istore_n (lv' := [(2, .int ((r ^^^ (le i)))), (3, .int (nI i)), (0, .ref ((g 0))), (1, .int x)]) hx hb dX0_add_29 rfl hl (by decide) rfl (fun ls hl => ?_)
          refine lv_iinc (v := (nI (i + 1))) (lv' := [(3, .int (nI (i + 1))), (2, .int ((r ^^^ (le i)))), (0, .ref ((g 0))), (1, .int x)]) hx hb dX0_add_30 hl (k := 1) rfl (nI_1 _) (by decide) rfl (fun ls hl => ?_)
          refine lv_goto (tgt := 4) hx hb dX0_add_33 (by decide) ?_
          have hres2 : itr (fun i r => if hldI r (nI i) = 0 then r else r ^^^ le i) k (i + 1) (r ^^^ (le i)) = leftOf le x := by rw [← hres, itr_s]; simp only [if_neg c_14, if_neg c_16]
          exact ih (i + 1) (r ^^^ (le i)) _ _ ls (by omega) hres2 hP hS (lv_sub hl [0, 1, 2, 3] rfl)
  exact L4 12 0 x _ _ ls rfl rfl hP hS (lv_sub hl [0, 1, 2, 3] rfl)
