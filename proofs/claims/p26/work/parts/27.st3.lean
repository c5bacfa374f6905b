set_option maxHeartbeats 4000000 in
set_option maxRecDepth 100000 in
theorem c_X4_receiverAt (l : Launch) (E : wE) (g : Nat → Nat) (nb : Nat) (va : Nat → Int32) (se : Int32) (rs : Nat → RR) (x : Int32) : Met l yX4_receiverAt wsX4_receiverAt ({ frames := 0, cells := 0, slots := 0, locals := 0 }) (va_Pc [.ref ((g 0)), .int x] (wS E 12 g (stP E g nb va se rs))) (va_Qq (fun (r : Option Nat) (_ : Unit) => r = (if x < 0 then none else if (3 : Int32) ≤ x then none else some (g (3 + 3 * x.toNatClampNeg)))) (fun _ t => True) wN) 0 0 wN := by
  refine Met.ofW (cc := cX4_receiverAt) (maxL := 2) (ret := (some (.object "MixedBlocks$Receiver"))) (by decide) rfl ?_
  intro p e s m args below meth c s₁ B hml hv
  obtain ⟨rfl, ⟨hP, hR⟩, hK, hI⟩ := hv
  have hx := B.exec
  have hb := B.bytes
  have hr := B.returns
  have hts := atoms_spec (ws := wsX4_receiverAt) B.pre
  have hown : s.vm.findClass RX4 = some m.cls := findClass_of_methodNamed B.named
  have hlocks := B.notSynchronized
  have hS : va_S wN s.heap s.heap [] := va_S.rf
  have hin4 : ∀ w ∈ wsX40, w ∈ wsX4_receiverAt := by decide +kernel
  have hl := lv_entry ([.ref ((g 0)), .int x]) (n := 2) (Nat.le_of_ble_eq_true rfl)
  rw [lg_entry_eq]
  generalize (lg_sl ([.ref ((g 0)), .int x]) ++ List.replicate (2 - (lg_sl ([.ref ((g 0)), .int x])).length) Slot.unset).toArray = ls at hl ⊢
  have hl : lv_has ls 2 [(0, .ref ((g 0))), (1, .int x)] := hl
  refine lv_iload_n hx hb dX4_receiverAt_0 rfl (lv_at hl 1 rfl) ?_
  refine lv_if_lt (tgt := 22) hx hb dX4_receiverAt_1 (by decide) (fun c_1 => ?_) (fun c_1 => ?_)
  · refine lv_null hx hb dX4_receiverAt_22 ?_
    exact W.aret (v := va_rf none) hx hb hr (Or.inl ⟨_, rfl⟩) (va_rf_or _) (fun t ht hW => ⟨⟨none, (), rfl, (by show _ = _; rw [if_pos c_1]), trivial⟩, hS.F ht⟩) hS.2.2 dX4_receiverAt_23
  · refine lv_iload_n hx hb dX4_receiverAt_4 rfl (lv_at hl 1 rfl) ?_
    refine lv_aload_n hx hb dX4_receiverAt_5 rfl (lv_at hl 0 rfl) ?_
    refine w_get (C := RX4) (T := TX4) (N := 4) (ci := 4) (v := .ref ((g 2))) hx hb hts hin4 hown hK hP 0 (by decide) rfl rfl 3 (by decide) (hts (.fieldLink RX4 24 "MixedBlocks$State" "receivers" "[LMixedBlocks$Receiver;") (List.mem_of_getElem? (i := 1) rfl)) (fun _ h9 => h9) rfl dX4_receiverAt_6 ?_
    refine w_alenq (v := 3) hx hb hK hP 2 (by decide) 1 rfl rfl rfl dX4_receiverAt_9 ?_
    refine lv_icmp_ge (tgt := 22) hx hb dX4_receiverAt_10 (by decide) (fun c_2 => ?_) (fun c_2 => ?_)
    · refine lv_null hx hb dX4_receiverAt_22 ?_
      exact W.aret (v := va_rf none) hx hb hr (Or.inl ⟨_, rfl⟩) (va_rf_or _) (fun t ht hW => ⟨⟨none, (), rfl, (by show _ = _; rw [if_neg c_1, if_pos c_2]), trivial⟩, hS.F ht⟩) hS.2.2 dX4_receiverAt_23
    · refine lv_aload_n hx hb dX4_receiverAt_13 rfl (lv_at hl 0 rfl) ?_
      refine w_get (C := RX4) (T := TX4) (N := 4) (ci := 4) (v := .ref ((g 2))) hx hb hts hin4 hown hK hP 0 (by decide) rfl rfl 3 (by decide) (hts (.fieldLink RX4 24 "MixedBlocks$State" "receivers" "[LMixedBlocks$Receiver;") (List.mem_of_getElem? (i := 1) rfl)) (fun _ h9 => h9) rfl dX4_receiverAt_14 ?_
      refine lv_iload_n hx hb dX4_receiverAt_17 rfl (lv_at hl 1 rfl) ?_
      refine w_aldq hx hb hK hP 2 (by decide) 1 rfl rfl (vin_of (n := 3) (by decide) c_1 c_2) dX4_receiverAt_18 ?_
      refine lv_goto (tgt := 23) hx hb dX4_receiverAt_19 (by decide) ?_
      exact W.aret (v := va_rf (some (g (3 + 3 * x.toNatClampNeg)))) hx hb hr (Or.inl ⟨_, rfl⟩) (va_rf_or _) (fun t ht hW => ⟨⟨(some (g (3 + 3 * x.toNatClampNeg))), (), rfl, (by show _ = _; rw [if_neg c_1, if_neg c_2]), trivial⟩, hS.F ht⟩) hS.2.2 dX4_receiverAt_23
set_option maxHeartbeats 4000000 in
set_option maxRecDepth 100000 in
theorem c_X4_valueAt (l : Launch) (E : wE) (g : Nat → Nat) (nb : Nat) (va : Nat → Int32) (se : Int32) (rs : Nat → RR) (b : Nat) (hb12 : b < 12) : Met l yX4_valueAt wsX4_valueAt ({ frames := 0, cells := 0, slots := 0, locals := 0 }) (va_Pc [.ref ((g 0)), .int (nI b)] (wS E 12 g (stP E g nb va se rs))) (va_Qi (fun (r : Int32) (_ : Unit) => r = va b) (fun _ t => True) wN) 0 0 wN := by
  refine Met.ofW (cc := cX4_valueAt) (maxL := 2) (ret := (some .int)) (by decide) rfl ?_
  intro p e s m args below meth c s₁ B hml hv
  obtain ⟨rfl, ⟨hP, hR⟩, hK, hI⟩ := hv
  have hx := B.exec
  have hb := B.bytes
  have hr := B.returns
  have hts := atoms_spec (ws := wsX4_valueAt) B.pre
  have hown : s.vm.findClass RX4 = some m.cls := findClass_of_methodNamed B.named
  have hlocks := B.notSynchronized
  have hS : va_S wN s.heap s.heap [] := va_S.rf
  have hin4 : ∀ w ∈ wsX40, w ∈ wsX4_valueAt := by decide +kernel
  have hl := lv_entry ([.ref ((g 0)), .int (nI b)]) (n := 2) (Nat.le_of_ble_eq_true rfl)
  rw [lg_entry_eq]
  generalize (lg_sl ([.ref ((g 0)), .int (nI b)]) ++ List.replicate (2 - (lg_sl ([.ref ((g 0)), .int (nI b)])).length) Slot.unset).toArray = ls at hl ⊢
  have hl : lv_has ls 2 [(0, .ref ((g 0))), (1, .int (nI b))] := hl
  refine lv_iload_n hx hb dX4_valueAt_0 rfl (lv_at hl 1 rfl) ?_
  refine lv_if_lt (tgt := 22) hx hb dX4_valueAt_1 (by decide) (fun c_1 => ?_) (fun c_1 => ?_)
  · exact absurd c_1 (nI_pos (by omega))
  · refine lv_iload_n hx hb dX4_valueAt_4 rfl (lv_at hl 1 rfl) ?_
    refine lv_aload_n hx hb dX4_valueAt_5 rfl (lv_at hl 0 rfl) ?_
    refine w_get (C := RX4) (T := TX4) (N := 4) (ci := 4) (v := .ref ((g 1))) hx hb hts hin4 hown hK hP 0 (by decide) rfl rfl 1 (by decide) (hts (.fieldLink RX4 15 "MixedBlocks$State" "values" "[I") (List.mem_of_getElem? (i := 1) rfl)) (fun _ h9 => h9) rfl dX4_valueAt_6 ?_
    refine w_alen (v := 12) hx hb hK hP 1 (by decide) rfl rfl dX4_valueAt_9 ?_
    refine lv_icmp_ge (tgt := 22) hx hb dX4_valueAt_10 (by decide) (fun c_2 => ?_) (fun c_2 => ?_)
    · exact absurd ((nI_leI (a := 12) (by omega) (by omega)).mp c_2) (by omega)
    · refine lv_aload_n hx hb dX4_valueAt_13 rfl (lv_at hl 0 rfl) ?_
      refine w_get (C := RX4) (T := TX4) (N := 4) (ci := 4) (v := .ref ((g 1))) hx hb hts hin4 hown hK hP 0 (by decide) rfl rfl 1 (by decide) (hts (.fieldLink RX4 15 "MixedBlocks$State" "values" "[I") (List.mem_of_getElem? (i := 1) rfl)) (fun _ h9 => h9) rfl dX4_valueAt_14 ?_
      refine lv_iload_n hx hb dX4_valueAt_17 rfl (lv_at hl 1 rfl) ?_
      refine w_iald hx hb hK hP 1 (by decide) rfl (vp_in_nI (by omega) (by decide)) dX4_valueAt_18 ?_
      rw [nI_clamp (by omega)]
      refine lv_goto (tgt := 23) hx hb dX4_valueAt_19 (by decide) ?_
      exact W.iret (v := (va b)) hx hb hr (fun t ht hW => ⟨⟨_, (), rfl, (by first | rfl | (simp only [if_neg c_1, if_neg c_2]; done) | (simp only [if_neg c_1, if_neg c_2]; rfl)), trivial⟩, hS.F ht⟩) hS.2.2 dX4_valueAt_23
set_option maxHeartbeats 4000000 in
set_option maxRecDepth 100000 in
theorem c_X4_isDone (l : Launch) (E : wE) (g g2 : Nat → Nat) (nb : Nat) (va : Nat → Int32) (se : Int32) (li2 : Bool) (q2 : RS) (hJ : wI 3 g2) : Met l yX4_isDone wsX4_isDone ({ frames := 2, cells := 0, slots := 0, locals := 40 }) (va_Pc [.ref ((g 0)), .ref ((g2 0))] (wS E 0 g (fun H => wP E 3 g (stF E g nb va se) H ∧ rcT E g2 li2 q2 H))) (va_Qi (fun (r : Int32) (_ : Unit) => r = (if swar q2.1 = nI nb then 1 else 0)) (fun _ t => True) wN) 0 0 wN := by
  refine Met.ofW (cc := cX4_isDone) (maxL := 2) (ret := (some .boolean)) (by decide) rfl ?_
  intro p e s m args below meth c s₁ B hml hv
  obtain ⟨rfl, ⟨hP, ⟨hln2, lf2, hlf2, hQ⟩⟩, hK, hI0⟩ := hv
  have hx := B.exec
  have hb := B.bytes
  have hr := B.returns
  have hts := atoms_spec (ws := wsX4_isDone) B.pre
  have hown : s.vm.findClass RX4 = some m.cls := findClass_of_methodNamed B.named
  have hlocks := B.notSynchronized
  have hS : va_S wN s.heap s.heap [] := va_S.rf
  have hin4 : ∀ w ∈ wsX40, w ∈ wsX4_isDone := by decide +kernel
  have hl := lv_entry ([.ref ((g 0)), .ref ((g2 0))]) (n := 2) (Nat.le_of_ble_eq_true rfl)
  rw [lg_entry_eq]
  generalize (lg_sl ([.ref ((g 0)), .ref ((g2 0))]) ++ List.replicate (2 - (lg_sl ([.ref ((g 0)), .ref ((g2 0))])).length) Slot.unset).toArray = ls at hl ⊢
  have hl : lv_has ls 2 [(0, .ref ((g 0))), (1, .ref ((g2 0)))] := hl
  refine lv_aload_n hx hb dX4_isDone_0 rfl (lv_at hl 1 rfl) ?_
  refine va_calli (va_runV (As := []) (rest := []) ⟨hx, hb, hml, hown, hts⟩ (c_X3_knows l E g2 li2 q2.1 q2.2.1 q2.2.2.1 q2.2.2.2.1 q2.2.2.2.2.1 q2.2.2.2.2.2) (cwV 0 hts gX4_isDone_X3_knows rfl rfl rfl (by decide +kernel) ⟨Nat.le_of_ble_eq_true rfl, Nat.le_of_ble_eq_true rfl⟩) ⟨wS.blind, (w_recv hK hQ 0 (by decide) rfl (ci := 3) rfl), fun U hU hW => wS.go ⟨hln2, _, hlf2, hQ⟩ hK hJ hU hW⟩ rfl rfl hl.1 rfl (lv_room (Nat.le_of_ble_eq_true rfl)) dX4_isDone_1 ⟨Nat.zero_le _, Nat.zero_le _⟩) hS (fun q _ h => h.elim) (fun q h => h.elim) (fun r_1 uu t H_1 locs_1 ht hvm hw hB hz1 hk1 hS => ?_)
  have hP := hP.same hk1
  have hQ := hQ.same hk1
  obtain rfl : r_1 = (swar q2.1) := hw
  refine lv_aload_n hx hb dX4_isDone_4 rfl (lv_at hl 0 rfl) ?_
  refine w_get (C := RX4) (T := TX4) (N := 4) (ci := 4) (v := .int (nI nb)) hx hb hts hin4 hown hK hP 0 (by decide) rfl rfl 0 (by decide) (hts (.fieldLink RX4 9 "MixedBlocks$State" "blocks" "I") (List.mem_of_getElem? (i := 1) rfl)) (fun _ h9 => h9) rfl dX4_isDone_5 ?_
  refine lv_icmp_ne (tgt := 15) hx hb dX4_isDone_8 (by decide) (fun c_2 => ?_) (fun c_2 => ?_)
  · refine lv_iconst (v := 0) hx hb dX4_isDone_15 (by decide) ?_
    exact W.zret (v := 0) hx hb hr rfl (fun t ht hW => ⟨⟨_, (), rfl, (by first | rfl | (simp only [if_neg c_2]; done) | (simp only [if_neg c_2]; rfl)), trivial⟩, hS.F ht⟩) hS.2.2 dX4_isDone_16
  · refine lv_iconst (v := 1) hx hb dX4_isDone_11 (by decide) ?_
    refine lv_goto (tgt := 16) hx hb dX4_isDone_12 (by decide) ?_
    exact W.zret (v := 1) hx hb hr rfl (fun t ht hW => ⟨⟨_, (), rfl, (by first | rfl | (simp only [if_pos c_2]; done) | (simp only [if_pos c_2]; rfl)), trivial⟩, hS.F ht⟩) hS.2.2 dX4_isDone_16
set_option maxHeartbeats 4000000 in
set_option maxRecDepth 100000 in
theorem c_X4_listening (l : Launch) (E : wE) (g : Nat → Nat) (nb : Nat) (va : Nat → Int32) (se : Int32) (rs : Nat → RR)  : Met l yX4_listening wsX4_listening ({ frames := 0, cells := 0, slots := 0, locals := 0 }) (va_Pc [.ref ((g 0))] (wS E 12 g (stP E g nb va se rs))) (va_Qi (fun (r : Int32) (_ : Unit) => r = nI (cntR (fun r => r.1) rs 3)) (fun _ t => True) wN) 0 0 wN := by
  refine Met.ofW (cc := cX4_listening) (maxL := 4) (ret := (some .int)) (by decide) rfl ?_
  intro p e s m args below meth c s₁ B hml hv
  obtain ⟨rfl, ⟨hP, hR⟩, hK, hI⟩ := hv
  have hx := B.exec
  have hb := B.bytes
  have hr := B.returns
  have hts := atoms_spec (ws := wsX4_listening) B.pre
  have hown : s.vm.findClass RX4 = some m.cls := findClass_of_methodNamed B.named
  have hlocks := B.notSynchronized
  have hS : va_S wN s.heap s.heap [] := va_S.rf
  have hin3 : ∀ w ∈ wsX30, w ∈ wsX4_listening := by decide +kernel
  have hin4 : ∀ w ∈ wsX40, w ∈ wsX4_listening := by decide +kernel
  have hl := lv_entry ([.ref ((g 0))]) (n := 4) (Nat.le_of_ble_eq_true rfl)
  rw [lg_entry_eq]
  generalize (lg_sl ([.ref ((g 0))]) ++ List.replicate (4 - (lg_sl ([.ref ((g 0))])).length) Slot.unset).toArray = ls at hl ⊢
  have hl : lv_has ls 4 [(0, .ref ((g 0)))] := hl
  refine lv_iconst (v := 0) hx hb dX4_listening_0 (by decide) ?_
  refine lv_istore_n (lv' := [(1, .int 0), (0, .ref ((g 0)))]) hx hb dX4_listening_1 rfl hl (by decide) rfl (fun ls hl => ?_)
  refine lv_iconst (v := 0) hx hb dX4_listening_2 (by decide) ?_
  refine lv_istore_n (lv' := [(2, .int 0), (1, .int 0), (0, .ref ((g 0)))]) hx hb dX4_listening_3 rfl hl (by decide) rfl (fun ls hl => ?_)
  have L4 : ∀ (k : Nat) (i : Nat) (H : Heap) (locs : List Loc) (ls : Array Slot), i + k = 3 → wP E 3 g (stF E g nb va se) H → stR E g rs H → va_S wN s.heap H locs → lv_has ls 4 [(2, .int (nI i)), (1, .int (nI (cntR (fun r => r.1) rs i))), (0, .ref ((g 0)))] → W p l e (headSpec wsX4_listening ({ frames := 0, cells := 0, slots := 0, locals := 0 })).room s m ([.ref ((g 0))] : List Value).toArray below meth c H locs 0 0 (MQ below (va_Qi (fun (r : Int32) (_ : Unit) => r = nI (cntR (fun r => r.1) rs 3)) (fun _ t => True) wN) ([.ref ((g 0))] : List Value).toArray s 0 0 wN) (F0 m 4 ls []) := by
    intro k
    induction k with
    | zero =>
      intro i H locs ls hi hP hR hS hl
      refine lv_iload_n hx hb dX4_listening_4 rfl (lv_at hl 0 rfl) ?_
      refine lv_aload_n hx hb dX4_listening_5 rfl (lv_at hl 2 rfl) ?_
      refine w_get (C := RX4) (T := TX4) (N := 4) (ci := 4) (v := .ref ((g 2))) hx hb hts hin4 hown hK hP 0 (by decide) rfl rfl 3 (by decide) (hts (.fieldLink RX4 24 "MixedBlocks$State" "receivers" "[LMixedBlocks$Receiver;") (List.mem_of_getElem? (i := 1) rfl)) (fun _ h9 => h9) rfl dX4_listening_6 ?_
      refine w_alenq (v := 3) hx hb hK hP 2 (by decide) 1 rfl rfl rfl dX4_listening_9 ?_
      refine lv_icmp_ge (tgt := 40) hx hb dX4_listening_10 (by decide) (fun c_1 => ?_) (fun c_1 => ?_)
      · have n_1 : 3 ≤ i := (nI_leI (a := 3) (b := i) (by omega) (by omega)).mp c_1
        refine lv_iload_n hx hb dX4_listening_40 rfl (lv_at hl 1 rfl) ?_
        exact W.iret (v := (nI (cntR (fun r => r.1) rs i))) hx hb hr (fun t ht hW => ⟨⟨_, (), rfl, (by show _ = _; rw [show i = 3 from by omega]), trivial⟩, hS.F ht⟩) hS.2.2 dX4_listening_41
      · have n_1 : ¬ 3 ≤ i := fun z => c_1 ((nI_leI (a := 3) (b := i) (by omega) (by omega)).mpr z)
        exfalso
        omega
    | succ k ih =>
      intro i H locs ls hi hP hR hS hl
      refine lv_iload_n hx hb dX4_listening_4 rfl (lv_at hl 0 rfl) ?_
      refine lv_aload_n hx hb dX4_listening_5 rfl (lv_at hl 2 rfl) ?_
      refine w_get (C := RX4) (T := TX4) (N := 4) (ci := 4) (v := .ref ((g 2))) hx hb hts hin4 hown hK hP 0 (by decide) rfl rfl 3 (by decide) (hts (.fieldLink RX4 24 "MixedBlocks$State" "receivers" "[LMixedBlocks$Receiver;") (List.mem_of_getElem? (i := 1) rfl)) (fun _ h9 => h9) rfl dX4_listening_6 ?_
      refine w_alenq (v := 3) hx hb hK hP 2 (by decide) 1 rfl rfl rfl dX4_listening_9 ?_
      refine lv_icmp_ge (tgt := 40) hx hb dX4_listening_10 (by decide) (fun c_2 => ?_) (fun c_2 => ?_)
      · have n_2 : 3 ≤ i := (nI_leI (a := 3) (b := i) (by omega) (by omega)).mp c_2
        exfalso
        omega
      · have n_2 : ¬ 3 ≤ i := fun z => c_2 ((nI_leI (a := 3) (b := i) (by omega) (by omega)).mpr z)
        refine lv_aload_n hx hb dX4_listening_13 rfl (lv_at hl 2 rfl) ?_
        refine w_get (C := RX4) (T := TX4) (N := 4) (ci := 4) (v := .ref ((g 2))) hx hb hts hin4 hown hK hP 0 (by decide) rfl rfl 3 (by decide) (hts (.fieldLink RX4 24 "MixedBlocks$State" "receivers" "[LMixedBlocks$Receiver;") (List.mem_of_getElem? (i := 1) rfl)) (fun _ h9 => h9) rfl dX4_listening_14 ?_
        refine lv_iload_n hx hb dX4_listening_17 rfl (lv_at hl 0 rfl) ?_
        refine w_aldq hx hb hK hP 2 (by decide) 1 rfl rfl (vp_in_nI (by omega) (by decide)) dX4_listening_18 ?_
        rw [nI_clamp (by omega)]
        refine lv_astore_n (lv' := [(3, .ref ((g (3 + 3 * i)))), (2, .int (nI i)), (1, .int (nI (cntR (fun r => r.1) rs i))), (0, .ref ((g 0)))]) hx hb dX4_listening_19 rfl hl (by decide) rfl (fun ls hl => ?_)
        refine lv_aload_n hx hb dX4_listening_20 rfl (lv_at hl 0 rfl) ?_
        refine lv_ifnull hx hb dX4_listening_21 ?_
        have hRi := hR i (by omega)
        obtain ⟨hlnI, lfI, hlfI, hPI⟩ := id hRi
        refine lv_aload_n hx hb dX4_listening_24 rfl (lv_at hl 0 rfl) ?_
        refine w_getN (C := RX3) (T := TX3) (N := 8) (ci := 3) (v := .int ((bI (rs i).1))) hx hb hts hin3 hown hK hPI 0 (by decide) rfl rfl 0 (by decide) nf_X4_51 (fun _ h9 => h9) rfl dX4_listening_25 ?_
        refine lv_if_eq (tgt := 34) hx hb dX4_listening_28 (by decide) (fun c_3 => ?_) (fun c_3 => ?_)
        · refine lv_iinc (v := (nI (i + 1))) (lv' := [(2, .int (nI (i + 1))), (3, .ref ((g (3 + 3 * i)))), (1, .int (nI (cntR (fun r => r.1) rs i))), (0, .ref ((g 0)))]) hx hb dX4_listening_34 hl (k := 1) rfl (nI_1 _) (by decide) rfl (fun ls hl => ?_)
          refine lv_goto (tgt := 4) hx hb dX4_listening_37 (by decide) ?_
          have hc2 := (cntR_n (p := fun r => r.1) (bI_0 c_3))
          rw [hc2] at hl
          exact ih (i + 1) _ _ ls (by omega) hP hR hS (lv_sub hl [0, 2, 3] rfl)
        · refine lv_iinc (v := (nI ((cntR (fun r => r.1) rs i) + 1))) (lv' := [(1, .int (nI ((cntR (fun r => r.1) rs i) + 1))), (3, .ref ((g (3 + 3 * i)))), (2, .int (nI i)), (0, .ref ((g 0)))]) hx hb dX4_listening_31 hl (k := 2) rfl (nI_1 _) (by decide) rfl (fun ls hl => ?_)
          refine lv_iinc (v := (nI (i + 1))) (lv' := [(2, .int (nI (i + 1))), (1, .int (nI ((cntR (fun r => r.1) rs i) + 1))), (3, .ref ((g (3 + 3 * i)))), (0, .ref ((g 0)))]) hx hb dX4_listening_34 hl (k := 2) rfl (nI_1 _) (by decide) rfl (fun ls hl => ?_)
          refine lv_goto (tgt := 4) hx hb dX4_listening_37 (by decide) ?_
          have hc2 := (cntR_y (p := fun r => r.1) (bI_1 c_3))
          rw [hc2] at hl
          exact ih (i + 1) _ _ ls (by omega) hP hR hS (lv_sub hl [0, 1, 3] rfl)
  exact L4 3 0 _ _ ls rfl hP hR hS (lv_sub hl [0, 1, 2] rfl)
set_option maxHeartbeats 4000000 in
set_option maxRecDepth 100000 in
theorem c_X4_done (l : Launch) (E : wE) (g : Nat → Nat) (nb : Nat) (va : Nat → Int32) (se : Int32) (rs : Nat → RR)  : Met l yX4_done wsX4_done ({ frames := 3, cells := 0, slots := 0, locals := 61 }) (va_Pc [.ref ((g 0))] (wS E 12 g (stP E g nb va se rs))) (va_Qi (fun (r : Int32) (_ : Unit) => r = nI (cntR (isDn nb) rs 3)) (fun _ t => True) wN) 0 0 wN := by
  refine Met.ofW (cc := cX4_done) (maxL := 4) (ret := (some .int)) (by decide) rfl ?_
  intro p e s m args below meth c s₁ B hml hv
  obtain ⟨rfl, ⟨hP, hR⟩, hK, hI⟩ := hv
  have hx := B.exec
  have hb := B.bytes
  have hr := B.returns
  have hts := atoms_spec (ws := wsX4_done) B.pre
  have hown : s.vm.findClass RX4 = some m.cls := findClass_of_methodNamed B.named
  have hlocks := B.notSynchronized
  have hS : va_S wN s.heap s.heap [] := va_S.rf
  have hin4 : ∀ w ∈ wsX40, w ∈ wsX4_done := by decide +kernel
  have hl := lv_entry ([.ref ((g 0))]) (n := 4) (Nat.le_of_ble_eq_true rfl)
  rw [lg_entry_eq]
  generalize (lg_sl ([.ref ((g 0))]) ++ List.replicate (4 - (lg_sl ([.ref ((g 0))])).length) Slot.unset).toArray = ls at hl ⊢
  have hl : lv_has ls 4 [(0, .ref ((g 0)))] := hl
  refine lv_iconst (v := 0) hx hb dX4_done_0 (by decide) ?_
  refine lv_istore_n (lv' := [(1, .int 0), (0, .ref ((g 0)))]) hx hb dX4_done_1 rfl hl (by decide) rfl (fun ls hl => ?_)
  refine lv_iconst (v := 0) hx hb dX4_done_2 (by decide) ?_
  refine lv_istore_n (lv' := [(2, .int 0), (1, .int 0), (0, .ref ((g 0)))]) hx hb dX4_done_3 rfl hl (by decide) rfl (fun ls hl => ?_)
  have L4 : ∀ (k : Nat) (i : Nat) (H : Heap) (locs : List Loc) (ls : Array Slot), i + k = 3 → wP E 3 g (stF E g nb va se) H → stR E g rs H → va_S wN s.heap H locs → lv_has ls 4 [(2, .int (nI i)), (1, .int (nI (cntR (isDn nb) rs i))), (0, .ref ((g 0)))] → W p l e (headSpec wsX4_done ({ frames := 3, cells := 0, slots := 0, locals := 61 })).room s m ([.ref ((g 0))] : List Value).toArray below meth c H locs 0 0 (MQ below (va_Qi (fun (r : Int32) (_ : Unit) => r = nI (cntR (isDn nb) rs 3)) (fun _ t => True) wN) ([.ref ((g 0))] : List Value).toArray s 0 0 wN) (F0 m 4 ls []) := by
    intro k
    induction k with
    | zero =>
      intro i H locs ls hi hP hR hS hl
      refine lv_iload_n hx hb dX4_done_4 rfl (lv_at hl 0 rfl) ?_
      refine lv_aload_n hx hb dX4_done_5 rfl (lv_at hl 2 rfl) ?_
      refine w_get (C := RX4) (T := TX4) (N := 4) (ci := 4) (v := .ref ((g 2))) hx hb hts hin4 hown hK hP 0 (by decide) rfl rfl 3 (by decide) (hts (.fieldLink RX4 24 "MixedBlocks$State" "receivers" "[LMixedBlocks$Receiver;") (List.mem_of_getElem? (i := 1) rfl)) (fun _ h9 => h9) rfl dX4_done_6 ?_
      refine w_alenq (v := 3) hx hb hK hP 2 (by decide) 1 rfl rfl rfl dX4_done_9 ?_
      refine lv_icmp_ge (tgt := 41) hx hb dX4_done_10 (by decide) (fun c_1 => ?_) (fun c_1 => ?_)
      · have n_1 : 3 ≤ i := (nI_leI (a := 3) (b := i) (by omega) (by omega)).mp c_1
        refine lv_iload_n hx hb dX4_done_41 rfl (lv_at hl 1 rfl) ?_
        exact W.iret (v := (nI (cntR (isDn nb) rs i))) hx hb hr (fun t ht hW => ⟨⟨_, (), rfl, (by show _ = _; rw [show i = 3 from by omega]), trivial⟩, hS.F ht⟩) hS.2.2 dX4_done_42
      · have n_1 : ¬ 3 ≤ i := fun z => c_1 ((nI_leI (a := 3) (b := i) (by omega) (by omega)).mpr z)
        exfalso
        omega
    | succ k ih =>
      intro i H locs ls hi hP hR hS hl
      refine lv_iload_n hx hb dX4_done_4 rfl (lv_at hl 0 rfl) ?_
      refine lv_aload_n hx hb dX4_done_5 rfl (lv_at hl 2 rfl) ?_
      refine w_get (C := RX4) (T := TX4) (N := 4) (ci := 4) (v := .ref ((g 2))) hx hb hts hin4 hown hK hP 0 (by decide) rfl rfl 3 (by decide) (hts (.fieldLink RX4 24 "MixedBlocks$State" "receivers" "[LMixedBlocks$Receiver;") (List.mem_of_getElem? (i := 1) rfl)) (fun _ h9 => h9) rfl dX4_done_6 ?_
      refine w_alenq (v := 3) hx hb hK hP 2 (by decide) 1 rfl rfl rfl dX4_done_9 ?_
      refine lv_icmp_ge (tgt := 41) hx hb dX4_done_10 (by decide) (fun c_2 => ?_) (fun c_2 => ?_)
      · have n_2 : 3 ≤ i := (nI_leI (a := 3) (b := i) (by omega) (by omega)).mp c_2
        exfalso
        omega
      · have n_2 : ¬ 3 ≤ i := fun z => c_2 ((nI_leI (a := 3) (b := i) (by omega) (by omega)).mpr z)
        refine lv_aload_n hx hb dX4_done_13 rfl (lv_at hl 2 rfl) ?_
        refine w_get (C := RX4) (T := TX4) (N := 4) (ci := 4) (v := .ref ((g 2))) hx hb hts hin4 hown hK hP 0 (by decide) rfl rfl 3 (by decide) (hts (.fieldLink RX4 24 "MixedBlocks$State" "receivers" "[LMixedBlocks$Receiver;") (List.mem_of_getElem? (i := 1) rfl)) (fun _ h9 => h9) rfl dX4_done_14 ?_
        refine lv_iload_n hx hb dX4_done_17 rfl (lv_at hl 0 rfl) ?_
        refine w_aldq hx hb hK hP 2 (by decide) 1 rfl rfl (vp_in_nI (by omega) (by decide)) dX4_done_18 ?_
        rw [nI_clamp (by omega)]
        refine lv_astore_n (lv' := [(3, .ref ((g (3 + 3 * i)))), (2, .int (nI i)), (1, .int (nI (cntR (isDn nb) rs i))), (0, .ref ((g 0)))]) hx hb dX4_done_19 rfl hl (by decide) rfl (fun ls hl => ?_)
        refine lv_aload_n hx hb dX4_done_20 rfl (lv_at hl 0 rfl) ?_
        refine lv_ifnull hx hb dX4_done_21 ?_
        have hRi := hR i (by omega)
        obtain ⟨hlnI, lfI, hlfI, hPI⟩ := id hRi
        refine lv_aload_n hx hb dX4_done_24 rfl (lv_at hl 3 rfl) ?_
        refine lv_aload_n hx hb dX4_done_25 rfl (lv_at hl 0 rfl) ?_
        refine va_calli (va_runV (As := [.ref ((g (3 + 3 * i)))]) (rest := []) ⟨hx, hb, hml, hown, hts⟩ (c_X4_isDone l E g (rg g i) nb va se (rs i).1 (rs i).2 (rg_I hI (by omega))) (cwV 1 hts gX4_done_X4_isDone rfl rfl rfl (by decide +kernel) ⟨Nat.le_of_ble_eq_true rfl, Nat.le_of_ble_eq_true rfl⟩) ⟨wS.blind, (w_recv hK hP 0 (by decide) rfl (ci := 4) rfl), fun U hU hW => wS.go ⟨hP, hRi⟩ hK wI0 hU hW⟩ rfl rfl hl.1 rfl (lv_room (Nat.le_of_ble_eq_true rfl)) dX4_done_26 ⟨Nat.zero_le _, Nat.zero_le _⟩) hS (fun q _ h => h.elim) (fun q h => h.elim) (fun r_3 uu t H_3 locs_3 ht hvm hw hB hz1 hk1 hS => ?_)
        have hP := hP.same hk1
        have hR := hR.same hk1
        obtain rfl : r_3 = (if swar (rs i).2.1 = nI nb then (1 : Int32) else 0) := hw
        refine lv_if_eq (tgt := 35) hx hb dX4_done_29 (by decide) (fun c_4 => ?_) (fun c_4 => ?_)
        · refine lv_iinc (v := (nI (i + 1))) (lv' := [(2, .int (nI (i + 1))), (3, .ref ((g (3 + 3 * i)))), (1, .int (nI (cntR (isDn nb) rs i))), (0, .ref ((g 0)))]) hx hb dX4_done_35 hl (k := 1) rfl (nI_1 _) (by decide) rfl (fun ls hl => ?_)
          refine lv_goto (tgt := 4) hx hb dX4_done_38 (by decide) ?_
          have hc2 := cntR_n (p := isDn nb) (dn_0 c_4)
          rw [hc2] at hl
          exact ih (i + 1) _ _ ls (by omega) hP hR hS (lv_sub hl [0, 2, 3] rfl)
        · refine lv_iinc (v := (nI ((cntR (isDn nb) rs i) + 1))) (lv' := [(1, .int (nI ((cntR (isDn nb) rs i) + 1))), (3, .ref ((g (3 + 3 * i)))), (2, .int (nI i)), (0, .ref ((g 0)))]) hx hb dX4_done_32 hl (k := 2) rfl (nI_1 _) (by decide) rfl (fun ls hl => ?_)
          refine lv_iinc (v := (nI (i + 1))) (lv' := [(2, .int (nI (i + 1))), (1, .int (nI ((cntR (isDn nb) rs i) + 1))), (3, .ref ((g (3 + 3 * i)))), (0, .ref ((g 0)))]) hx hb dX4_done_35 hl (k := 2) rfl (nI_1 _) (by decide) rfl (fun ls hl => ?_)
          refine lv_goto (tgt := 4) hx hb dX4_done_38 (by decide) ?_
          have hc2 := cntR_y (p := isDn nb) (dn_1 c_4)
          rw [hc2] at hl
          exact ih (i + 1) _ _ ls (by omega) hP hR hS (lv_sub hl [0, 1, 3] rfl)
  exact L4 3 0 _ _ ls rfl hP hR hS (lv_sub hl [0, 1, 2] rfl)
set_option maxHeartbeats 4000000 in
set_option maxRecDepth 100000 in
theorem c_X4_allTogether (l : Launch) (E : wE) (g : Nat → Nat) (nb : Nat) (va : Nat → Int32) (se : Int32) (rs : Nat → RR) (hnb : nb ≤ 12) : Met l yX4_allTogether wsX4_allTogether ({ frames := 1, cells := 0, slots := 0, locals := 21 }) (va_Pc [.ref ((g 0))] (wS E 12 g (stP E g nb va se rs))) (va_Qi (fun (r : Int32) (_ : Unit) => r = allT va nb) (fun _ t => True) wN) 0 0 wN := by
  refine Met.ofW (cc := cX4_allTogether) (maxL := 3) (ret := (some .int)) (by decide) rfl ?_
  intro p e s m args below meth c s₁ B hml hv
  obtain ⟨rfl, ⟨hP, hR⟩, hK, hI⟩ := hv
  have hx := B.exec
  have hb := B.bytes
  have hr := B.returns
  have hts := atoms_spec (ws := wsX4_allTogether) B.pre
  have hown : s.vm.findClass RX4 = some m.cls := findClass_of_methodNamed B.named
  have hlocks := B.notSynchronized
  have hS : va_S wN s.heap s.heap [] := va_S.rf
  have hin4 : ∀ w ∈ wsX40, w ∈ wsX4_allTogether := by decide +kernel
  have hl := lv_entry ([.ref ((g 0))]) (n := 3) (Nat.le_of_ble_eq_true rfl)
  rw [lg_entry_eq]
  generalize (lg_sl ([.ref ((g 0))]) ++ List.replicate (3 - (lg_sl ([.ref ((g 0))])).length) Slot.unset).toArray = ls at hl ⊢
  have hl : lv_has ls 3 [(0, .ref ((g 0)))] := hl
  refine lv_iconst (v := 0) hx hb dX4_allTogether_0 (by decide) ?_
  refine lv_istore_n (lv' := [(1, .int 0), (0, .ref ((g 0)))]) hx hb dX4_allTogether_1 rfl hl (by decide) rfl (fun ls hl => ?_)
  refine lv_iconst (v := 0) hx hb dX4_allTogether_2 (by decide) ?_
  refine lv_istore_n (lv' := [(2, .int 0), (1, .int 0), (0, .ref ((g 0)))]) hx hb dX4_allTogether_3 rfl hl (by decide) rfl (fun ls hl => ?_)
  have L4 : ∀ (k : Nat) (i : Nat) (v : Int32) (H : Heap) (locs : List Loc) (ls : Array Slot), i + k = nb → itr (fun i v => v ^^^ va i) k i v = allT va nb → wP E 3 g (stF E g nb va se) H → stR E g rs H → va_S wN s.heap H locs → lv_has ls 3 [(2, .int (nI i)), (1, .int v), (0, .ref ((g 0)))] → W p l e (headSpec wsX4_allTogether ({ frames := 1, cells := 0, slots := 0, locals := 21 })).room s m ([.ref ((g 0))] : List Value).toArray below meth c H locs 0 0 (MQ below (va_Qi (fun (r : Int32) (_ : Unit) => r = allT va nb) (fun _ t => True) wN) ([.ref ((g 0))] : List Value).toArray s 0 0 wN) (F0 m 4 ls []) := by
    intro k
    induction k with
    | zero =>
      intro i v H locs ls hi hres hP hR hS hl
      refine lv_iload_n hx hb dX4_allTogether_4 rfl (lv_at hl 0 rfl) ?_
      refine lv_aload_n hx hb dX4_allTogether_5 rfl (lv_at hl 2 rfl) ?_
      refine w_get (C := RX4) (T := TX4) (N := 4) (ci := 4) (v := .int (nI nb)) hx hb hts hin4 hown hK hP 0 (by decide) rfl rfl 0 (by decide) (hts (.fieldLink RX4 9 "MixedBlocks$State" "blocks" "I") (List.mem_of_getElem? (i := 1) rfl)) (fun _ h9 => h9) rfl dX4_allTogether_6 ?_
      refine lv_icmp_ge (tgt := 26) hx hb dX4_allTogether_9 (by decide) (fun c_1 => ?_) (fun c_1 => ?_)
      · have n_1 : nb ≤ i := (nI_leI (a := nb) (b := i) (by omega) (by omega)).mp c_1
        refine lv_iload_n hx hb dX4_allTogether_26 rfl (lv_at hl 1 rfl) ?_
        exact W.iret (v := v) hx hb hr (fun t ht hW => ⟨⟨_, (), rfl, hres, trivial⟩, hS.F ht⟩) hS.2.2 dX4_allTogether_27
      · have n_1 : ¬ nb ≤ i := fun z => c_1 ((nI_leI (a := nb) (b := i) (by omega) (by omega)).mpr z)
        exfalso
        omega
    | succ k ih =>
      intro i v H locs ls hi hres hP hR hS hl
      refine lv_iload_n hx hb dX4_allTogether_4 rfl (lv_at hl 0 rfl) ?_
      refine lv_aload_n hx hb dX4_allTogether_5 rfl (lv_at hl 2 rfl) ?_
      refine w_get (C := RX4) (T := TX4) (N := 4) (ci := 4) (v := .int (nI nb)) hx hb hts hin4 hown hK hP 0 (by decide) rfl rfl 0 (by decide) (hts (.fieldLink RX4 9 "MixedBlocks$State" "blocks" "I") (List.mem_of_getElem? (i := 1) rfl)) (fun _ h9 => h9) rfl dX4_allTogether_6 ?_
      refine lv_icmp_ge (tgt := 26) hx hb dX4_allTogether_9 (by decide) (fun c_2 => ?_) (fun c_2 => ?_)
      · have n_2 : nb ≤ i := (nI_leI (a := nb) (b := i) (by omega) (by omega)).mp c_2
        exfalso
        omega
      · have n_2 : ¬ nb ≤ i := fun z => c_2 ((nI_leI (a := nb) (b := i) (by omega) (by omega)).mpr z)
        refine lv_iload_n hx hb dX4_allTogether_12 rfl (lv_at hl 1 rfl) ?_
        refine lv_aload_n hx hb dX4_allTogether_13 rfl (lv_at hl 2 rfl) ?_
        refine lv_iload_n hx hb dX4_allTogether_14 rfl (lv_at hl 0 rfl) ?_
        refine va_calli (va_runV (As := [.int (nI i)]) (rest := [.int v]) ⟨hx, hb, hml, hown, hts⟩ (c_X4_valueAt l E g nb va se rs i (by omega)) (cwV 1 hts gX4_allTogether_X4_valueAt rfl rfl rfl (by decide +kernel) ⟨Nat.le_of_ble_eq_true rfl, Nat.le_of_ble_eq_true rfl⟩) ⟨wS.blind, (w_recv hK hP 0 (by decide) rfl (ci := 4) rfl), fun U hU hW => wS.go ⟨hP, hR⟩ hK hI hU hW⟩ rfl rfl hl.1 rfl (lv_room (Nat.le_of_ble_eq_true rfl)) dX4_allTogether_15 ⟨Nat.zero_le _, Nat.zero_le _⟩) hS (fun q _ h => h.elim) (fun q h => h.elim) (fun r_3 uu t H_3 locs_3 ht hvm hw hB hz1 hk1 hS => ?_)
        have hP := hP.same hk1
        have hR := hR.same hk1
        obtain rfl : r_3 = (va i) := hw
        refine lv_ixor hx hb dX4_allTogether_18 ?_
        refine lv_istore_n (lv' := [(1, .int ((v ^^^ (va i)))), (2, .int (nI i)), (0, .ref ((g 0)))]) hx hb dX4_allTogether_19 rfl hl (by decide) rfl (fun ls hl => ?_)
        refine lv_iinc (v := (nI (i + 1))) (lv' := [(2, .int (nI (i + 1))), (1, .int ((v ^^^ (va i)))), (0, .ref ((g 0)))]) hx hb dX4_allTogether_20 hl (k := 1) rfl (nI_1 _) (by decide) rfl (fun ls hl => ?_)
        refine lv_goto (tgt := 4) hx hb dX4_allTogether_23 (by decide) ?_
        exact ih (i + 1) (v ^^^ (va i)) _ _ ls (by omega) hres hP hR hS (lv_sub hl [0, 1, 2] rfl)
  exact L4 nb 0 0 _ _ ls (Nat.zero_add _) rfl hP hR hS (lv_sub hl [0, 1, 2] rfl)
