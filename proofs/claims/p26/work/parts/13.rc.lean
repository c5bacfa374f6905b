set_option maxHeartbeats 4000000 in
set_option maxRecDepth 100000 in
theorem c_X3_knows (l : Launch) (E : wE) (g : Nat → Nat) (li : Bool) (kb : Int32) (al : Nat → Int32) (L : List Int32) (go tn lo : Int32) : Met l yX3_knows wsX3_knows ({ frames := 1, cells := 0, slots := 0, locals := 20 }) (va_Pc [.ref ((g 0))] (wS E 3 g (rcP E g li kb al L go tn lo))) (va_Qi (fun (r : Int32) (_ : Unit) => r = swar kb) (fun _ t => True) wN) 0 0 wN := by
  refine Met.ofW (cc := cX3_knows) (maxL := 1) (ret := (some .int)) (by decide) rfl ?_
  intro p e s m args below meth c s₁ B hml hv
  obtain ⟨rfl, ⟨hln, lf, hlf, hP⟩, hK, hI⟩ := hv
  have hx := B.exec
  have hb := B.bytes
  have hr := B.returns
  have hts := atoms_spec (ws := wsX3_knows) B.pre
  have hown : s.vm.findClass RX3 = some m.cls := findClass_of_methodNamed B.named
  have hlocks := B.notSynchronized
  have hS : va_S wN s.heap s.heap [] := va_S.rf
  have hin3 : ∀ w ∈ wsX30, w ∈ wsX3_knows := by decide +kernel
  have hl := lv_entry ([.ref ((g 0))]) (n := 1) (Nat.le_of_ble_eq_true rfl)
  rw [lg_entry_eq]
  generalize (lg_sl ([.ref ((g 0))]) ++ List.replicate (1 - (lg_sl ([.ref ((g 0))])).length) Slot.unset).toArray = ls at hl ⊢
  have hl : lv_has ls 1 [(0, .ref ((g 0)))] := hl
  refine lv_aload_n hx hb dX3_knows_0 rfl (lv_at hl 0 rfl) ?_
  refine w_get (C := RX3) (T := TX3) (N := 8) (ci := 3) (v := .int kb) hx hb hts hin3 hown hK hP 0 (by decide) rfl rfl 1 (by decide) (hts (.fieldLink RX3 22 "MixedBlocks$Receiver" "knownBlocks" "I") (List.mem_of_getElem? (i := 1) rfl)) (fun _ h9 => h9) rfl dX3_knows_1 ?_
  refine va_calli (va_runS (As := [.int kb]) (rest := []) ⟨hx, hb, hml, hown, hts⟩ (c_J6_bitCount_0f7a4 l kb) (va_cwS 1 hts gX3_knows_J6_bitCount_0f7a4 rfl rfl rfl (by decide +kernel) ⟨Nat.le_of_ble_eq_true rfl, Nat.le_of_ble_eq_true rfl⟩) ⟨wU_blind, fun U hU hW => ⟨rfl, trivial⟩⟩ rfl rfl hl.1 rfl (lv_room (Nat.le_of_ble_eq_true rfl)) dX3_knows_4 ⟨Nat.zero_le _, Nat.zero_le _⟩) hS (fun q _ h => h.elim) (fun q h => h.elim) (fun r_1 uu t H_1 locs_1 ht hvm hw hB hz1 hk1 hS => ?_)
  have hP := hP.same hk1
  obtain rfl : r_1 = (swar kb) := hw
  exact W.iret (v := (swar kb)) hx hb hr (fun t ht hW => ⟨⟨_, (), rfl, rfl, trivial⟩, hS.F ht⟩) hS.2.2 dX3_knows_7
set_option maxHeartbeats 4000000 in
set_option maxRecDepth 100000 in
theorem c_X3_valueKnown (l : Launch) (E : wE) (g : Nat → Nat) (li : Bool) (kb : Int32) (al : Nat → Int32) (L : List Int32) (go tn lo : Int32) (b : Nat) (hb12 : b < 12) : Met l yX3_valueKnown wsX3_valueKnown ({ frames := 1, cells := 0, slots := 0, locals := 21 }) (va_Pc [.ref ((g 0)), .int (nI b)] (wS E 3 g (rcP E g li kb al L go tn lo))) (va_Qi (fun (r : Int32) (_ : Unit) => r = (if hldI kb (nI b) = 0 then -1 else al b >>> ((12 : Int32) &&& 31))) (fun _ t => True) wN) 0 0 wN := by
  refine Met.ofW (cc := cX3_valueKnown) (maxL := 2) (ret := (some .int)) (by decide) rfl ?_
  intro p e s m args below meth c s₁ B hml hv
  obtain ⟨rfl, ⟨hln, lf, hlf, hP⟩, hK, hI⟩ := hv
  have hx := B.exec
  have hb := B.bytes
  have hr := B.returns
  have hts := atoms_spec (ws := wsX3_valueKnown) B.pre
  have hown : s.vm.findClass RX3 = some m.cls := findClass_of_methodNamed B.named
  have hlocks := B.notSynchronized
  have hS : va_S wN s.heap s.heap [] := va_S.rf
  have hin3 : ∀ w ∈ wsX30, w ∈ wsX3_valueKnown := by decide +kernel
  have hl := lv_entry ([.ref ((g 0)), .int (nI b)]) (n := 2) (Nat.le_of_ble_eq_true rfl)
  rw [lg_entry_eq]
  generalize (lg_sl ([.ref ((g 0)), .int (nI b)]) ++ List.replicate (2 - (lg_sl ([.ref ((g 0)), .int (nI b)])).length) Slot.unset).toArray = ls at hl ⊢
  have hl : lv_has ls 2 [(0, .ref ((g 0))), (1, .int (nI b))] := hl
  refine lv_iload_n hx hb dX3_valueKnown_0 rfl (lv_at hl 1 rfl) ?_
  refine lv_if_lt (tgt := 24) hx hb dX3_valueKnown_1 (by decide) (fun c_1 => ?_) (fun c_1 => ?_)
  · exact absurd c_1 (nI_pos (by omega))
  · refine lv_iload_n hx hb dX3_valueKnown_4 rfl (lv_at hl 1 rfl) ?_
    refine lv_aload_n hx hb dX3_valueKnown_5 rfl (lv_at hl 0 rfl) ?_
    refine w_get (C := RX3) (T := TX3) (N := 8) (ci := 3) (v := .ref ((g 1))) hx hb hts hin3 hown hK hP 0 (by decide) rfl rfl 2 (by decide) (hts (.fieldLink RX3 9 "MixedBlocks$Receiver" "alone" "[I") (List.mem_of_getElem? (i := 1) rfl)) (fun _ h9 => h9) rfl dX3_valueKnown_6 ?_
    refine w_alen (v := 12) hx hb hK hP 1 (by decide) rfl rfl dX3_valueKnown_9 ?_
    refine lv_icmp_ge (tgt := 24) hx hb dX3_valueKnown_10 (by decide) (fun c_2 => ?_) (fun c_2 => ?_)
    · exact absurd ((nI_leI (a := 12) (by omega) (by omega)).mp c_2) (by omega)
    · refine lv_aload_n hx hb dX3_valueKnown_13 rfl (lv_at hl 0 rfl) ?_
      refine w_get (C := RX3) (T := TX3) (N := 8) (ci := 3) (v := .int kb) hx hb hts hin3 hown hK hP 0 (by decide) rfl rfl 1 (by decide) (hts (.fieldLink RX3 22 "MixedBlocks$Receiver" "knownBlocks" "I") (List.mem_of_getElem? (i := 2) rfl)) (fun _ h9 => h9) rfl dX3_valueKnown_14 ?_
      refine lv_iload_n hx hb dX3_valueKnown_17 rfl (lv_at hl 1 rfl) ?_
      refine va_calli (va_runSN (As := [.int kb, .int (nI b)]) (rest := []) ⟨hx, hb, hml, hown, hts⟩ (c_X5_holds l kb (nI b)) ⟨va_cnB 2 hts gX3_valueKnown_X5_holds_n48 rfl rfl rfl (hK.2 _ nm_X3_48) (hts (.initialized RX5) (List.mem_of_getElem? (i := 4) rfl)) (by decide +kernel) ⟨Nat.le_of_ble_eq_true rfl, Nat.le_of_ble_eq_true rfl⟩, (hts (.static yX5_holds) (List.mem_of_getElem? (i := 3) rfl)), trivial⟩ ⟨wU_blind, fun U hU hW => ⟨rfl, trivial⟩⟩ rfl rfl hl.1 rfl (lv_room (Nat.le_of_ble_eq_true rfl)) dX3_valueKnown_18 ⟨Nat.zero_le _, Nat.zero_le _⟩) hS (fun q _ h => h.elim) (fun q h => h.elim) (fun r_3 uu t H_3 locs_3 ht hvm hw hB hz1 hk1 hS => ?_)
      have hP := hP.same hk1
      obtain rfl : r_3 = (hldI kb (nI b)) := hw
      refine lv_if_ne (tgt := 26) hx hb dX3_valueKnown_21 (by decide) (fun c_4 => ?_) (fun c_4 => ?_)
      · refine lv_aload_n hx hb dX3_valueKnown_26 rfl (lv_at hl 0 rfl) ?_
        refine w_get (C := RX3) (T := TX3) (N := 8) (ci := 3) (v := .ref ((g 1))) hx hb hts hin3 hown hK hP 0 (by decide) rfl rfl 2 (by decide) (hts (.fieldLink RX3 9 "MixedBlocks$Receiver" "alone" "[I") (List.mem_of_getElem? (i := 1) rfl)) (fun _ h9 => h9) rfl dX3_valueKnown_27 ?_
        refine lv_iload_n hx hb dX3_valueKnown_30 rfl (lv_at hl 1 rfl) ?_
        refine w_iald hx hb hK hP 1 (by decide) rfl (vp_in_nI (by omega) (by decide)) dX3_valueKnown_31 ?_
        rw [nI_clamp (by omega)]
        refine va_calli (va_runSN (As := [.int ((al b))]) (rest := []) ⟨hx, hb, hml, hown, hts⟩ (c_X5_valueOf l (al b)) ⟨va_cnB 1 hts gX3_valueKnown_X5_valueOf_n52 rfl rfl rfl (hK.2 _ nm_X3_52) (hts (.initialized RX5) (List.mem_of_getElem? (i := 4) rfl)) (by decide +kernel) ⟨Nat.le_of_ble_eq_true rfl, Nat.le_of_ble_eq_true rfl⟩, (hts (.static yX5_valueOf) (List.mem_of_getElem? (i := 6) rfl)), trivial⟩ ⟨wU_blind, fun U hU hW => ⟨rfl, trivial⟩⟩ rfl rfl hl.1 rfl (lv_room (Nat.le_of_ble_eq_true rfl)) dX3_valueKnown_32 ⟨Nat.zero_le _, Nat.zero_le _⟩) hS (fun q _ h => h.elim) (fun q h => h.elim) (fun r_5 uu t H_5 locs_5 ht hvm hw hB hz1 hk1 hS => ?_)
        have hP := hP.same hk1
        obtain rfl : r_5 = ((al b) >>> ((12 : Int32) &&& 31)) := hw
        exact W.iret (v := ((al b) >>> ((12 : Int32) &&& 31))) hx hb hr (fun t ht hW => ⟨⟨_, (), rfl, (by first | rfl | (simp only [if_neg c_1, if_neg c_2, if_neg c_4]; done) | (simp only [if_neg c_1, if_neg c_2, if_neg c_4]; rfl)), trivial⟩, hS.F ht⟩) hS.2.2 dX3_valueKnown_35
      · refine lv_iconst (v := (-1)) hx hb dX3_valueKnown_24 (by decide) ?_
        exact W.iret (v := (-1)) hx hb hr (fun t ht hW => ⟨⟨_, (), rfl, (by first | rfl | (simp only [if_neg c_1, if_neg c_2, if_pos c_4]; done) | (simp only [if_neg c_1, if_neg c_2, if_pos c_4]; rfl)), trivial⟩, hS.F ht⟩) hS.2.2 dX3_valueKnown_25
set_option maxHeartbeats 4000000 in
set_option maxRecDepth 100000 in
theorem c_X3_waitingAt (l : Launch) (E : wE) (g : Nat → Nat) (li : Bool) (kb : Int32) (al : Nat → Int32) (L : List Int32) (go tn lo : Int32) (j : Nat) (hj : j < L.length) : Met l yX3_waitingAt wsX3_waitingAt ({ frames := 0, cells := 0, slots := 0, locals := 0 }) (va_Pc [.ref ((g 0)), .int (nI j)] (wS E 3 g (rcP E g li kb al L go tn lo))) (va_Qi (fun (r : Int32) (_ : Unit) => r = L.getD j 0) (fun _ t => True) wN) 0 0 wN := by
  refine Met.ofW (cc := cX3_waitingAt) (maxL := 2) (ret := (some .int)) (by decide) rfl ?_
  intro p e s m args below meth c s₁ B hml hv
  obtain ⟨rfl, ⟨hln, lf, hlf, hP⟩, hK, hI⟩ := hv
  have hx := B.exec
  have hb := B.bytes
  have hr := B.returns
  have hts := atoms_spec (ws := wsX3_waitingAt) B.pre
  have hown : s.vm.findClass RX3 = some m.cls := findClass_of_methodNamed B.named
  have hlocks := B.notSynchronized
  have hS : va_S wN s.heap s.heap [] := va_S.rf
  have hin3 : ∀ w ∈ wsX30, w ∈ wsX3_waitingAt := by decide +kernel
  have hl := lv_entry ([.ref ((g 0)), .int (nI j)]) (n := 2) (Nat.le_of_ble_eq_true rfl)
  rw [lg_entry_eq]
  generalize (lg_sl ([.ref ((g 0)), .int (nI j)]) ++ List.replicate (2 - (lg_sl ([.ref ((g 0)), .int (nI j)])).length) Slot.unset).toArray = ls at hl ⊢
  have hl : lv_has ls 2 [(0, .ref ((g 0))), (1, .int (nI j))] := hl
  refine lv_iload_n hx hb dX3_waitingAt_0 rfl (lv_at hl 1 rfl) ?_
  refine lv_if_lt (tgt := 22) hx hb dX3_waitingAt_1 (by decide) (fun c_1 => ?_) (fun c_1 => ?_)
  · exact absurd c_1 (nI_pos (by omega))
  · refine lv_iload_n hx hb dX3_waitingAt_4 rfl (lv_at hl 1 rfl) ?_
    refine lv_aload_n hx hb dX3_waitingAt_5 rfl (lv_at hl 0 rfl) ?_
    refine w_get (C := RX3) (T := TX3) (N := 8) (ci := 3) (v := .ref ((g 2))) hx hb hts hin3 hown hK hP 0 (by decide) rfl rfl 3 (by decide) (hts (.fieldLink RX3 15 "MixedBlocks$Receiver" "left" "[I") (List.mem_of_getElem? (i := 1) rfl)) (fun _ h9 => h9) rfl dX3_waitingAt_6 ?_
    refine w_alen (v := 24) hx hb hK hP 2 (by decide) rfl rfl dX3_waitingAt_9 ?_
    refine lv_icmp_ge (tgt := 22) hx hb dX3_waitingAt_10 (by decide) (fun c_2 => ?_) (fun c_2 => ?_)
    · exact absurd ((nI_leI (a := 24) (by omega) (by omega)).mp c_2) (by omega)
    · refine lv_aload_n hx hb dX3_waitingAt_13 rfl (lv_at hl 0 rfl) ?_
      refine w_get (C := RX3) (T := TX3) (N := 8) (ci := 3) (v := .ref ((g 2))) hx hb hts hin3 hown hK hP 0 (by decide) rfl rfl 3 (by decide) (hts (.fieldLink RX3 15 "MixedBlocks$Receiver" "left" "[I") (List.mem_of_getElem? (i := 1) rfl)) (fun _ h9 => h9) rfl dX3_waitingAt_14 ?_
      refine lv_iload_n hx hb dX3_waitingAt_17 rfl (lv_at hl 1 rfl) ?_
      refine w_iald hx hb hK hP 2 (by decide) rfl (vp_in_nI (by omega) (by decide)) dX3_waitingAt_18 ?_
      rw [nI_clamp (by omega)]
      refine lv_goto (tgt := 23) hx hb dX3_waitingAt_19 (by decide) ?_
      exact W.iret (v := (lf j)) hx hb hr (fun t ht hW => ⟨⟨_, (), rfl, (hlf j hj), trivial⟩, hS.F ht⟩) hS.2.2 dX3_waitingAt_23
set_option maxHeartbeats 4000000 in
set_option maxRecDepth 100000 in
theorem c_X3_leftOf (l : Launch) (E : wE) (g : Nat → Nat) (li : Bool) (kb : Int32) (al : Nat → Int32) (L : List Int32) (go tn lo : Int32) (x : Int32) : Met l yX3_leftOf wsX3_leftOf ({ frames := 1, cells := 0, slots := 0, locals := 21 }) (va_Pc [.ref ((g 0)), .int x] (wS E 3 g (rcP E g li kb al L go tn lo))) (va_Qi (fun (r : Int32) (_ : Unit) => r = leftOf al x) (fun _ t => True) wN) 0 0 wN := by
  refine Met.ofW (cc := cX3_leftOf) (maxL := 4) (ret := (some .int)) (by decide) rfl ?_
  intro p e s m args below meth c s₁ B hml hv
  obtain ⟨rfl, ⟨hln, lf, hlf, hP⟩, hK, hI⟩ := hv
  have hx := B.exec
  have hb := B.bytes
  have hr := B.returns
  have hts := atoms_spec (ws := wsX3_leftOf) B.pre
  have hown : s.vm.findClass RX3 = some m.cls := findClass_of_methodNamed B.named
  have hlocks := B.notSynchronized
  have hS : va_S wN s.heap s.heap [] := va_S.rf
  have hin3 : ∀ w ∈ wsX30, w ∈ wsX3_leftOf := by decide +kernel
  have hl := lv_entry ([.ref ((g 0)), .int x]) (n := 4) (Nat.le_of_ble_eq_true rfl)
  rw [lg_entry_eq]
  generalize (lg_sl ([.ref ((g 0)), .int x]) ++ List.replicate (4 - (lg_sl ([.ref ((g 0)), .int x])).length) Slot.unset).toArray = ls at hl ⊢
  have hl : lv_has ls 4 [(0, .ref ((g 0))), (1, .int x)] := hl
  refine lv_iload_n hx hb dX3_leftOf_0 rfl (lv_at hl 1 rfl) ?_
  refine lv_istore_n (lv' := [(2, .int x), (0, .ref ((g 0))), (1, .int x)]) hx hb dX3_leftOf_1 rfl hl (by decide) rfl (fun ls hl => ?_)
  refine lv_iconst (v := 0) hx hb dX3_leftOf_2 (by decide) ?_
  refine lv_istore_n (lv' := [(3, .int 0), (2, .int x), (0, .ref ((g 0))), (1, .int x)]) hx hb dX3_leftOf_3 rfl hl (by decide) rfl (fun ls hl => ?_)
  have L4 : ∀ (k : Nat) (i : Nat) (r : Int32) (H : Heap) (locs : List Loc) (ls : Array Slot), i + k = 12 → itr (fun i r => if hldI r (nI i) = 0 then r else r ^^^ al i) k i r = leftOf al x → wP E 3 g (rcF E g li kb al lf L.length go tn lo) H → va_S wN s.heap H locs → lv_has ls 4 [(3, .int (nI i)), (2, .int r), (0, .ref ((g 0))), (1, .int x)] → W p l e (headSpec wsX3_leftOf ({ frames := 1, cells := 0, slots := 0, locals := 21 })).room s m ([.ref ((g 0)), .int x] : List Value).toArray below meth c H locs 0 0 (MQ below (va_Qi (fun (r : Int32) (_ : Unit) => r = leftOf al x) (fun _ t => True) wN) ([.ref ((g 0)), .int x] : List Value).toArray s 0 0 wN) (F0 m 4 ls []) := by
    intro k
    induction k with
    | zero =>
      intro i r H locs ls hi hres hP hS hl
      refine lv_iload_n hx hb dX3_leftOf_4 rfl (lv_at hl 0 rfl) ?_
      refine lv_aload_n hx hb dX3_leftOf_5 rfl (lv_at hl 2 rfl) ?_
      refine w_get (C := RX3) (T := TX3) (N := 8) (ci := 3) (v := .ref ((g 1))) hx hb hts hin3 hown hK hP 0 (by decide) rfl rfl 2 (by decide) (hts (.fieldLink RX3 9 "MixedBlocks$Receiver" "alone" "[I") (List.mem_of_getElem? (i := 1) rfl)) (fun _ h9 => h9) rfl dX3_leftOf_6 ?_
      refine w_alen (v := 12) hx hb hK hP 1 (by decide) rfl rfl dX3_leftOf_9 ?_
      refine lv_icmp_ge (tgt := 36) hx hb dX3_leftOf_10 (by decide) (fun c_1 => ?_) (fun c_1 => ?_)
      · refine lv_iload_n hx hb dX3_leftOf_36 rfl (lv_at hl 1 rfl) ?_
        exact W.iret (v := r) hx hb hr (fun t ht hW => ⟨⟨_, (), rfl, hres, trivial⟩, hS.F ht⟩) hS.2.2 dX3_leftOf_37
      · exact absurd (nI_le (a := 12) (b := i) (by omega) (by omega)) c_1
    | succ k ih =>
      intro i r H locs ls hi hres hP hS hl
      refine lv_iload_n hx hb dX3_leftOf_4 rfl (lv_at hl 0 rfl) ?_
      refine lv_aload_n hx hb dX3_leftOf_5 rfl (lv_at hl 2 rfl) ?_
      refine w_get (C := RX3) (T := TX3) (N := 8) (ci := 3) (v := .ref ((g 1))) hx hb hts hin3 hown hK hP 0 (by decide) rfl rfl 2 (by decide) (hts (.fieldLink RX3 9 "MixedBlocks$Receiver" "alone" "[I") (List.mem_of_getElem? (i := 1) rfl)) (fun _ h9 => h9) rfl dX3_leftOf_6 ?_
      refine w_alen (v := 12) hx hb hK hP 1 (by decide) rfl rfl dX3_leftOf_9 ?_
      refine lv_icmp_ge (tgt := 36) hx hb dX3_leftOf_10 (by decide) (fun c_2 => ?_) (fun c_2 => ?_)
      · exact absurd ((nI_leI (a := 12) (b := i) (by omega) (by omega)).mp c_2) (by omega)
      · refine lv_iload_n hx hb dX3_leftOf_13 rfl (lv_at hl 1 rfl) ?_
        refine lv_iload_n hx hb dX3_leftOf_14 rfl (lv_at hl 0 rfl) ?_
        refine va_calli (va_runSN (As := [.int r, .int (nI i)]) (rest := []) ⟨hx, hb, hml, hown, hts⟩ (c_X5_holds l r (nI i)) ⟨va_cnB 2 hts gX3_leftOf_X5_holds_n48 rfl rfl rfl (hK.2 _ nm_X3_48) (hts (.initialized RX5) (List.mem_of_getElem? (i := 3) rfl)) (by decide +kernel) ⟨Nat.le_of_ble_eq_true rfl, Nat.le_of_ble_eq_true rfl⟩, (hts (.static yX5_holds) (List.mem_of_getElem? (i := 2) rfl)), trivial⟩ ⟨wU_blind, fun U hU hW => ⟨rfl, trivial⟩⟩ rfl rfl hl.1 rfl (lv_room (Nat.le_of_ble_eq_true rfl)) dX3_leftOf_15 ⟨Nat.zero_le _, Nat.zero_le _⟩) hS (fun q _ h => h.elim) (fun q h => h.elim) (fun r_3 uu t H_3 locs_3 ht hvm hw hB hz1 hk1 hS => ?_)
        have hP := hP.same hk1
        obtain rfl : r_3 = (hldI r (nI i)) := hw
        refine lv_if_eq (tgt := 30) hx hb dX3_leftOf_18 (by decide) (fun c_4 => ?_) (fun c_4 => ?_)
        · refine lv_iinc (v := (nI (i + 1))) (lv' := [(3, .int (nI (i + 1))), (2, .int r), (0, .ref ((g 0))), (1, .int x)]) hx hb dX3_leftOf_30 hl (k := 0) rfl (nI_1 _) (by decide) rfl (fun ls hl => ?_)
          refine lv_goto (tgt := 4) hx hb dX3_leftOf_33 (by decide) ?_
          have hres2 : itr (fun i r => if hldI r (nI i) = 0 then r else r ^^^ al i) k (i + 1) r = leftOf al x := by rw [← hres, itr_s]; simp only [if_neg c_2, if_pos c_4]
          exact ih (i + 1) r _ _ ls (by omega) hres2 hP hS (lv_sub hl [0, 1, 2, 3] rfl)
        · refine lv_iload_n hx hb dX3_leftOf_21 rfl (lv_at hl 1 rfl) ?_
          refine lv_aload_n hx hb dX3_leftOf_22 rfl (lv_at hl 2 rfl) ?_
          refine w_get (C := RX3) (T := TX3) (N := 8) (ci := 3) (v := .ref ((g 1))) hx hb hts hin3 hown hK hP 0 (by decide) rfl rfl 2 (by decide) (hts (.fieldLink RX3 9 "MixedBlocks$Receiver" "alone" "[I") (List.mem_of_getElem? (i := 1) rfl)) (fun _ h9 => h9) rfl dX3_leftOf_23 ?_
          refine lv_iload_n hx hb dX3_leftOf_26 rfl (lv_at hl 0 rfl) ?_
          refine w_iald hx hb hK hP 1 (by decide) rfl (vp_in_nI (by omega) (by decide)) dX3_leftOf_27 ?_
          rw [nI_clamp (by omega)]
          refine lv_ixor hx hb dX3_leftOf_28 ?_
          refine lv_istore_n (lv' := [(2, .int ((r ^^^ (al i)))), (3, .int (nI i)), (0, .ref ((g 0))), (1, .int x)]) hx hb dX3_leftOf_29 rfl hl (by decide) rfl (fun ls hl => ?_)
          refine lv_iinc (v := (nI (i + 1))) (lv' := [(3, .int (nI (i + 1))), (2, .int ((r ^^^ (al i)))), (0, .ref ((g 0))), (1, .int x)]) hx hb dX3_leftOf_30 hl (k := 1) rfl (nI_1 _) (by decide) rfl (fun ls hl => ?_)
          refine lv_goto (tgt := 4) hx hb dX3_leftOf_33 (by decide) ?_
          have hres2 : itr (fun i r => if hldI r (nI i) = 0 then r else r ^^^ al i) k (i + 1) (r ^^^ (al i)) = leftOf al x := by rw [← hres, itr_s]; simp only [if_neg c_2, if_neg c_4]
          exact ih (i + 1) (r ^^^ (al i)) _ _ ls (by omega) hres2 hP hS (lv_sub hl [0, 1, 2, 3] rfl)
  exact L4 12 0 x _ _ ls rfl rfl hP hS (lv_sub hl [0, 1, 2, 3] rfl)
