set_option maxHeartbeats 4000000 in
set_option maxRecDepth 100000 in
theorem c_X1_stateAt (l : Launch) (E : wE) (g : Nat → Nat) (ol ke u0 : Nat) (hol : ol < 6) (hu0 : u0 ≤ 6) : Met l yX1_stateAt wsX1_stateAt ({ frames := 0, cells := 0, slots := 0, locals := 0 }) (va_Pc [.ref ((g 0)), .int (nI u0)] (wS E 2 g (wP E 2 g (hiF E g ol ke)))) (va_Qq (fun (r : Option Nat) (_ : Unit) => r = some (g (2 + 12 * ((ol + u0) % 6)))) (fun _ t => True) wN) 0 0 wN := by
  refine Met.ofW (cc := cX1_stateAt) (maxL := 3) (ret := (some (.object "MixedBlocks$State"))) (by decide) rfl ?_
  intro p e s m args below meth c s₁ B hml hv
  obtain ⟨rfl, hP, hK, hI⟩ := hv
  have hx := B.exec
  have hb := B.bytes
  have hr := B.returns
  have hts := atoms_spec (ws := wsX1_stateAt) B.pre
  have hown : s.vm.findClass RX1 = some m.cls := findClass_of_methodNamed B.named
  have hlocks := B.notSynchronized
  have hS : va_S wN s.heap s.heap [] := va_S.rf
  have hin1 : ∀ w ∈ wsX10, w ∈ wsX1_stateAt := by decide +kernel
  have hl := lv_entry ([.ref ((g 0)), .int (nI u0)]) (n := 3) (Nat.le_of_ble_eq_true rfl)
  rw [lg_entry_eq]
  generalize (lg_sl ([.ref ((g 0)), .int (nI u0)]) ++ List.replicate (3 - (lg_sl ([.ref ((g 0)), .int (nI u0)])).length) Slot.unset).toArray = ls at hl ⊢
  have hl : lv_has ls 3 [(0, .ref ((g 0))), (1, .int (nI u0))] := hl
  refine lv_aload_n hx hb dX1_stateAt_0 rfl (lv_at hl 0 rfl) ?_
  refine w_get (C := RX1) (T := TX1) (N := 3) (ci := 1) (v := .int (nI ol)) hx hb hts hin1 hown hK hP 0 (by decide) rfl rfl 1 (by decide) (hts (.fieldLink RX1 18 "MixedBlocks$History" "oldest" "I") (List.mem_of_getElem? (i := 1) rfl)) (fun _ h9 => h9) rfl dX1_stateAt_1 ?_
  refine lv_iload_n hx hb dX1_stateAt_4 rfl (lv_at hl 1 rfl) ?_
  refine lv_iadd hx hb dX1_stateAt_5 ?_
  rw [show (nI ol) + (nI u0) = nI (ol + u0) from nI_add _ _]
  refine lv_bipush (v := 6) hx hb dX1_stateAt_6 (by decide) ?_
  refine lv_irem hx hb dX1_stateAt_8 (by decide) ?_
  rw [show (nI (ol + u0)) - (nI (ol + u0)) / 6 * 6 = nI ((ol + u0) % 6) from pk_rem (a := (ol + u0)) (d := 6) (by omega) (by omega) (by omega)]
  refine lv_istore_n (lv' := [(2, .int (nI ((ol + u0) % 6))), (0, .ref ((g 0))), (1, .int (nI u0))]) hx hb dX1_stateAt_9 rfl hl (by decide) rfl (fun ls hl => ?_)
  refine lv_iload_n hx hb dX1_stateAt_10 rfl (lv_at hl 0 rfl) ?_
  refine lv_if_lt (tgt := 32) hx hb dX1_stateAt_11 (by decide) (fun c_1 => ?_) (fun c_1 => ?_)
  · exact absurd c_1 (nI_pos (by omega))
  · refine lv_iload_n hx hb dX1_stateAt_14 rfl (lv_at hl 0 rfl) ?_
    refine lv_aload_n hx hb dX1_stateAt_15 rfl (lv_at hl 1 rfl) ?_
    refine w_get (C := RX1) (T := TX1) (N := 3) (ci := 1) (v := .ref ((g 1))) hx hb hts hin1 hown hK hP 0 (by decide) rfl rfl 0 (by decide) (hts (.fieldLink RX1 11 "MixedBlocks$History" "ring" "[LMixedBlocks$State;") (List.mem_of_getElem? (i := 2) rfl)) (fun _ h9 => h9) rfl dX1_stateAt_16 ?_
    refine w_alenq (v := 6) hx hb hK hP 1 (by decide) 2 rfl rfl rfl dX1_stateAt_19 ?_
    refine lv_icmp_ge (tgt := 32) hx hb dX1_stateAt_20 (by decide) (fun c_2 => ?_) (fun c_2 => ?_)
    · exact absurd ((nI_leI (a := 6) (by omega) (by omega)).mp c_2) (by omega)
    · refine lv_aload_n hx hb dX1_stateAt_23 rfl (lv_at hl 1 rfl) ?_
      refine w_get (C := RX1) (T := TX1) (N := 3) (ci := 1) (v := .ref ((g 1))) hx hb hts hin1 hown hK hP 0 (by decide) rfl rfl 0 (by decide) (hts (.fieldLink RX1 11 "MixedBlocks$History" "ring" "[LMixedBlocks$State;") (List.mem_of_getElem? (i := 2) rfl)) (fun _ h9 => h9) rfl dX1_stateAt_24 ?_
      refine lv_iload_n hx hb dX1_stateAt_27 rfl (lv_at hl 0 rfl) ?_
      refine w_aldq hx hb hK hP 1 (by decide) 2 rfl rfl (vp_in_nI (by omega) (by decide)) dX1_stateAt_28 ?_
      rw [nI_clamp (by omega)]
      refine lv_goto (tgt := 33) hx hb dX1_stateAt_29 (by decide) ?_
      exact W.aret (v := va_rf (some (g (2 + 12 * ((ol + u0) % 6))))) hx hb hr (Or.inl ⟨_, rfl⟩) (va_rf_or _) (fun t ht hW => ⟨⟨(some (g (2 + 12 * ((ol + u0) % 6)))), (), rfl, rfl, trivial⟩, hS.F ht⟩) hS.2.2 dX1_stateAt_33
set_option maxHeartbeats 4000000 in
set_option maxRecDepth 100000 in
theorem c_X1_keep (l : Launch) (E : wE) (g : Nat → Nat) (ol ke : Nat) (zs : Nat → SS) (g2 : Nat → Nat) (nb2 : Nat) (va2 : Nat → Int32) (se2 : Int32) (rs2 : Nat → RR) (hI : wI 74 g) (hJ : wI 12 g2) (hX : wX 74 g 12 g2) (hol : ol < 6) (hke : ke ≤ 6) : Met l yX1_keep wsX1_keep ({ frames := 4, cells := 0, slots := 0, locals := 129 }) (va_Pc [.ref ((g 0)), .ref ((g2 0))] (wS E 0 g (fun H => wP E 2 g (hiF E g ol ke) H ∧ hiS E g zs H ∧ stP E g2 nb2 va2 se2 rs2 H))) (va_Qv (fun (_ : Unit) => True) (fun _ t => wP E 2 g (hiF E g (kpO ol ke) (kpK ke)) (t.heap) ∧ hiS E g (va_up zs ((ol + ke) % 6) (nb2, va2, se2, rs2)) (t.heap) ∧ stP E g2 nb2 va2 se2 rs2 (t.heap)) (fun q => wF 74 g q ∨ wF 12 g2 q)) 0 0 (fun q => wF 74 g q ∨ wF 12 g2 q) := by
  refine Met.ofW (cc := cX1_keep) (maxL := 3) (ret := none) (by decide) rfl ?_
  intro p e s m args below meth c s₁ B hml hv
  obtain ⟨rfl, ⟨hP, hH, hQ⟩, hK, hI0⟩ := hv
  have hx := B.exec
  have hb := B.bytes
  have hr := B.returns
  have hts := atoms_spec (ws := wsX1_keep) B.pre
  have hown : s.vm.findClass RX1 = some m.cls := findClass_of_methodNamed B.named
  have hlocks := B.notSynchronized
  have hS : va_S (fun q => wF 74 g q ∨ wF 12 g2 q) s.heap s.heap [] := va_S.rf
  have hin1 : ∀ w ∈ wsX10, w ∈ wsX1_keep := by decide +kernel
  have hl := lv_entry ([.ref ((g 0)), .ref ((g2 0))]) (n := 3) (Nat.le_of_ble_eq_true rfl)
  rw [lg_entry_eq]
  generalize (lg_sl ([.ref ((g 0)), .ref ((g2 0))]) ++ List.replicate (3 - (lg_sl ([.ref ((g 0)), .ref ((g2 0))])).length) Slot.unset).toArray = ls at hl ⊢
  have hl : lv_has ls 3 [(0, .ref ((g 0))), (1, .ref ((g2 0)))] := hl
  have hI9 : wI 2 g := hI.le (by decide)
  have hA : ∀ k, k < 2 → (fun q => wF 74 g q ∨ wF 12 g2 q) (g k) := fun k hk => Or.inl (wF_in k (by omega))
  have hix : (ol + ke) % 6 < 6 := Nat.mod_lt _ (by decide)
  refine lv_aload_n hx hb dX1_keep_0 rfl (lv_at hl 0 rfl) ?_
  refine lv_aload_n hx hb dX1_keep_1 rfl (lv_at hl 0 rfl) ?_
  refine w_get (C := RX1) (T := TX1) (N := 3) (ci := 1) (v := .int (nI ke)) hx hb hts hin1 hown hK hP 0 (by decide) rfl rfl 2 (by decide) (hts (.fieldLink RX1 22 "MixedBlocks$History" "kept" "I") (List.mem_of_getElem? (i := 1) rfl)) (fun _ h9 => h9) rfl dX1_keep_2 ?_
  refine va_callq (va_runV (As := [.int (nI ke)]) (rest := []) ⟨hx, hb, hml, hown, hts⟩ (c_X1_stateAt l E g ol ke ke hol (by omega)) (cwV 1 hts gX1_keep_X1_stateAt rfl rfl rfl (by decide +kernel) ⟨Nat.le_of_ble_eq_true rfl, Nat.le_of_ble_eq_true rfl⟩) ⟨wS.blind, (w_recv hK hP 0 (by decide) rfl (ci := 1) rfl), fun U hU hW => wS.go hP hK (hI.le (by decide)) hU hW⟩ rfl rfl hl.1 rfl (lv_room (Nat.le_of_ble_eq_true rfl)) dX1_keep_5 ⟨Nat.zero_le _, Nat.zero_le _⟩) hS (fun q _ h => h.elim) (fun q h => h.elim) (fun r_1 uu t H_1 locs_1 ht hvm hw hB hz1 hk1 hS => ?_)
  have hP := hP.same hk1
  have hH := hH.same hk1
  have hQ := hQ.same hk1
  obtain rfl : r_1 = (some (g (2 + 12 * ((ol + ke) % 6)))) := hw
  refine lv_astore_n (lv' := [(2, .ref ((g (2 + 12 * ((ol + ke) % 6))))), (0, .ref ((g 0))), (1, .ref ((g2 0)))]) hx hb dX1_keep_8 rfl hl (by decide) rfl (fun ls hl => ?_)
  refine lv_aload_n hx hb dX1_keep_9 rfl (lv_at hl 0 rfl) ?_
  refine lv_ifnull hx hb dX1_keep_10 ?_
  refine lv_aload_n hx hb dX1_keep_13 rfl (lv_at hl 0 rfl) ?_
  refine lv_aload_n hx hb dX1_keep_14 rfl (lv_at hl 2 rfl) ?_
  refine va_callv (va_runV (As := [.ref ((g2 0))]) (rest := []) ⟨hx, hb, hml, hown, hts⟩ (c_X4_become l E (hg g ((ol + ke) % 6)) (zs ((ol + ke) % 6)).1 (zs ((ol + ke) % 6)).2.1 (zs ((ol + ke) % 6)).2.2.1 (zs ((ol + ke) % 6)).2.2.2 g2 nb2 va2 se2 rs2 (hg_I hI hix) hJ (hg_X hX hix)) (cwV 1 hts gX1_keep_X4_become rfl rfl rfl (by decide +kernel) ⟨Nat.le_of_ble_eq_true rfl, Nat.le_of_ble_eq_true rfl⟩) ⟨wS.blind, (w_recv hK (hH _ hix).1 0 (by decide) rfl (ci := 4) rfl), fun U hU hW => wS.go ⟨hH _ hix, hQ⟩ hK wI0 hU hW⟩ rfl rfl hl.1 rfl (lv_room (Nat.le_of_ble_eq_true rfl)) dX1_keep_15 ⟨Nat.zero_le _, Nat.zero_le _⟩) hS (fun q _ h => (hg_in (g2 := g2) hix) q h) (hg_in (g2 := g2) hix) (fun uu t H_2 locs_2 ht hvm hw hB hz1 hk1 hS => ?_)
  rw [ht] at hB
  have hP := hP.other hk1 (hg_main hI hX hix)
  have hH := hH.set2 hI hX hix hk1 (z := (nb2, va2, se2, rs2)) hB.1
  have hQ := hB.2
  refine lv_aload_n hx hb dX1_keep_18 rfl (lv_at hl 1 rfl) ?_
  refine w_get (C := RX1) (T := TX1) (N := 3) (ci := 1) (v := .int (nI ke)) hx hb hts hin1 hown hK hP 0 (by decide) rfl rfl 2 (by decide) (hts (.fieldLink RX1 22 "MixedBlocks$History" "kept" "I") (List.mem_of_getElem? (i := 1) rfl)) (fun _ h9 => h9) rfl dX1_keep_19 ?_
  refine lv_bipush (v := 6) hx hb dX1_keep_22 (by decide) ?_
  refine lv_icmp_ge (tgt := 40) hx hb dX1_keep_24 (by decide) (fun c_3 => ?_) (fun c_3 => ?_)
  · have h6 : ¬ ke < 6 := Nat.not_lt.mpr ((nI_leI (a := 6) (b := ke) (by omega) (by omega)).mp c_3)
    refine lv_aload_n hx hb dX1_keep_40 rfl (lv_at hl 1 rfl) ?_
    refine lv_aload_n hx hb dX1_keep_41 rfl (lv_at hl 1 rfl) ?_
    refine w_get (C := RX1) (T := TX1) (N := 3) (ci := 1) (v := .int (nI ol)) hx hb hts hin1 hown hK hP 0 (by decide) rfl rfl 1 (by decide) (hts (.fieldLink RX1 18 "MixedBlocks$History" "oldest" "I") (List.mem_of_getElem? (i := 2) rfl)) (fun _ h9 => h9) rfl dX1_keep_42 ?_
    refine lv_iconst (v := 1) hx hb dX1_keep_45 (by decide) ?_
    refine lv_iadd hx hb dX1_keep_46 ?_
    rw [show (nI ol) + 1 = nI (ol + 1) from nI_add _ _]
    refine lv_bipush (v := 6) hx hb dX1_keep_47 (by decide) ?_
    refine lv_irem hx hb dX1_keep_49 (by decide) ?_
    rw [show (nI (ol + 1)) - (nI (ol + 1)) / 6 * 6 = nI ((ol + 1) % 6) from pk_rem (a := (ol + 1)) (d := 6) (by omega) (by omega) (by omega)]
    refine w_putO (C := RX1) (T := TX1) (N := 3) (ci := 1) (v := .int (nI ((ol + 1) % 6))) (ty := .int) hx hb hts hin1 tyX1 tyX1_ok nmX1 hown hK hP hI9 hA hS 0 (by decide) rfl rfl 1 (by decide) (hts (.fieldLink RX1 18 "MixedBlocks$History" "oldest" "I") (List.mem_of_getElem? (i := 2) rfl)) (fun _ h9 => h9) rfl (by decide +kernel) rfl rfl (Nat.le_of_ble_eq_true rfl) dX1_keep_50 (hiF E g ((ol + 1) % 6) ke) rfl hi_ne0 (fun H_4 locs_4 hP hO hS => ?_)
    have hH := hH.put hI (by decide) hO
    have hQ := hQ.keep (fun k hk => hO _ (fun e => hX 0 k (by decide) hk e.symm))
    exact W.vret hx hb hr (fun t ht hW => ⟨⟨(), rfl, trivial, (by show wP E 2 g (hiF E g (kpO ol ke) (kpK ke)) t.heap ∧ hiS E g (va_up zs ((ol + ke) % 6) (nb2, va2, se2, rs2)) t.heap ∧ stP E g2 nb2 va2 se2 rs2 t.heap; rw [ht, kpO, kpK, if_neg h6, if_neg h6]; exact ⟨hP, hH, hQ⟩)⟩, hS.F ht⟩) hS.2.2 dX1_keep_53
  · have h6 : ke < 6 := Nat.lt_of_not_le (fun z => c_3 ((nI_leI (a := 6) (b := ke) (by omega) (by omega)).mpr z))
    refine lv_aload_n hx hb dX1_keep_27 rfl (lv_at hl 1 rfl) ?_
    refine lv_dup hx hb dX1_keep_28 rfl ?_
    refine w_get (C := RX1) (T := TX1) (N := 3) (ci := 1) (v := .int (nI ke)) hx hb hts hin1 hown hK hP 0 (by decide) rfl rfl 2 (by decide) (hts (.fieldLink RX1 22 "MixedBlocks$History" "kept" "I") (List.mem_of_getElem? (i := 1) rfl)) (fun _ h9 => h9) rfl dX1_keep_29 ?_
    refine lv_iconst (v := 1) hx hb dX1_keep_32 (by decide) ?_
    refine lv_iadd hx hb dX1_keep_33 ?_
    rw [show (nI ke) + 1 = nI (ke + 1) from nI_add _ _]
    refine w_putO (C := RX1) (T := TX1) (N := 3) (ci := 1) (v := .int (nI (ke + 1))) (ty := .int) hx hb hts hin1 tyX1 tyX1_ok nmX1 hown hK hP hI9 hA hS 0 (by decide) rfl rfl 2 (by decide) (hts (.fieldLink RX1 22 "MixedBlocks$History" "kept" "I") (List.mem_of_getElem? (i := 1) rfl)) (fun _ h9 => h9) rfl (by decide +kernel) rfl rfl (Nat.le_of_ble_eq_true rfl) dX1_keep_34 (hiF E g ol (ke + 1)) rfl hi_ne0 (fun H_5 locs_5 hP hO hS => ?_)
    have hH := hH.put hI (by decide) hO
    have hQ := hQ.keep (fun k hk => hO _ (fun e => hX 0 k (by decide) hk e.symm))
    refine lv_goto (tgt := 53) hx hb dX1_keep_37 (by decide) ?_
    exact W.vret hx hb hr (fun t ht hW => ⟨⟨(), rfl, trivial, (by show wP E 2 g (hiF E g (kpO ol ke) (kpK ke)) t.heap ∧ hiS E g (va_up zs ((ol + ke) % 6) (nb2, va2, se2, rs2)) t.heap ∧ stP E g2 nb2 va2 se2 rs2 t.heap; rw [ht, kpO, kpK, if_pos h6, if_pos h6]; exact ⟨hP, hH, hQ⟩)⟩, hS.F ht⟩) hS.2.2 dX1_keep_53
set_option maxHeartbeats 4000000 in
set_option maxRecDepth 100000 in
theorem c_X1_giveBack (l : Launch) (E : wE) (g : Nat → Nat) (ol ke : Nat) (zs : Nat → SS) (g2 : Nat → Nat) (nb2 : Nat) (va2 : Nat → Int32) (se2 : Int32) (rs2 : Nat → RR) (hI : wI 74 g) (hJ : wI 12 g2) (hX : wX 74 g 12 g2) (hol : ol < 6) (hke : ke ≤ 6) : Met l yX1_giveBack wsX1_giveBack ({ frames := 4, cells := 0, slots := 0, locals := 129 }) (va_Pc [.ref ((g 0)), .ref ((g2 0))] (wS E 0 g (fun H => wP E 2 g (hiF E g ol ke) H ∧ hiS E g zs H ∧ stP E g2 nb2 va2 se2 rs2 H))) (va_Qi (fun (r : Int32) (_ : Unit) => r = bI (decide (0 < ke))) (fun _ t => if 0 < ke then wP E 2 g (hiF E g ol (ke - 1)) (t.heap) ∧ hiS E g zs (t.heap) ∧ stT E g2 (zs ((ol + (ke - 1)) % 6)) (t.heap) else wP E 2 g (hiF E g ol ke) (t.heap) ∧ hiS E g zs (t.heap) ∧ stP E g2 nb2 va2 se2 rs2 (t.heap)) (fun q => wF 74 g q ∨ wF 12 g2 q)) 0 0 (fun q => wF 74 g q ∨ wF 12 g2 q) := by
  refine Met.ofW (cc := cX1_giveBack) (maxL := 2) (ret := (some .boolean)) (by decide) rfl ?_
  intro p e s m args below meth c s₁ B hml hv
  obtain ⟨rfl, ⟨hP, hH, hQ⟩, hK, hI0⟩ := hv
  have hx := B.exec
  have hb := B.bytes
  have hr := B.returns
  have hts := atoms_spec (ws := wsX1_giveBack) B.pre
  have hown : s.vm.findClass RX1 = some m.cls := findClass_of_methodNamed B.named
  have hlocks := B.notSynchronized
  have hS : va_S (fun q => wF 74 g q ∨ wF 12 g2 q) s.heap s.heap [] := va_S.rf
  have hin1 : ∀ w ∈ wsX10, w ∈ wsX1_giveBack := by decide +kernel
  have hl := lv_entry ([.ref ((g 0)), .ref ((g2 0))]) (n := 2) (Nat.le_of_ble_eq_true rfl)
  rw [lg_entry_eq]
  generalize (lg_sl ([.ref ((g 0)), .ref ((g2 0))]) ++ List.replicate (2 - (lg_sl ([.ref ((g 0)), .ref ((g2 0))])).length) Slot.unset).toArray = ls at hl ⊢
  have hl : lv_has ls 2 [(0, .ref ((g 0))), (1, .ref ((g2 0)))] := hl
  have hI9 : wI 2 g := hI.le (by decide)
  have hA : ∀ k, k < 2 → (fun q => wF 74 g q ∨ wF 12 g2 q) (g k) := fun k hk => Or.inl (wF_in k (by omega))
  have hix : (ol + (ke - 1)) % 6 < 6 := Nat.mod_lt _ (by decide)
  refine lv_aload_n hx hb dX1_giveBack_0 rfl (lv_at hl 0 rfl) ?_
  refine w_get (C := RX1) (T := TX1) (N := 3) (ci := 1) (v := .int (nI ke)) hx hb hts hin1 hown hK hP 0 (by decide) rfl rfl 2 (by decide) (hts (.fieldLink RX1 22 "MixedBlocks$History" "kept" "I") (List.mem_of_getElem? (i := 1) rfl)) (fun _ h9 => h9) rfl dX1_giveBack_1 ?_
  refine lv_if_gt (tgt := 9) hx hb dX1_giveBack_4 (by decide) (fun c_1 => ?_) (fun c_1 => ?_)
  · have h0 : 0 < ke := (nI_ltI (a := 0) (b := ke) (by omega) (by omega)).mp c_1
    refine lv_aload_n hx hb dX1_giveBack_9 rfl (lv_at hl 0 rfl) ?_
    refine lv_dup hx hb dX1_giveBack_10 rfl ?_
    refine w_get (C := RX1) (T := TX1) (N := 3) (ci := 1) (v := .int (nI ke)) hx hb hts hin1 hown hK hP 0 (by decide) rfl rfl 2 (by decide) (hts (.fieldLink RX1 22 "MixedBlocks$History" "kept" "I") (List.mem_of_getElem? (i := 1) rfl)) (fun _ h9 => h9) rfl dX1_giveBack_11 ?_
    refine lv_iconst (v := 1) hx hb dX1_giveBack_14 (by decide) ?_
    refine lv_isub hx hb dX1_giveBack_15 ?_
    rw [show (nI ke) - 1 = nI (ke - 1) from pk_sub (a := ke) (b := 1) (by omega)]
    refine w_putO (C := RX1) (T := TX1) (N := 3) (ci := 1) (v := .int (nI (ke - 1))) (ty := .int) hx hb hts hin1 tyX1 tyX1_ok nmX1 hown hK hP hI9 hA hS 0 (by decide) rfl rfl 2 (by decide) (hts (.fieldLink RX1 22 "MixedBlocks$History" "kept" "I") (List.mem_of_getElem? (i := 1) rfl)) (fun _ h9 => h9) rfl (by decide +kernel) rfl rfl (Nat.le_of_ble_eq_true rfl) dX1_giveBack_16 (hiF E g ol (ke - 1)) rfl hi_ne0 (fun H_2 locs_2 hP hO hS => ?_)
    have hH := hH.put hI (by decide) hO
    have hQ := hQ.keep (fun k hk => hO _ (fun e => hX 0 k (by decide) hk e.symm))
    refine lv_aload_n hx hb dX1_giveBack_19 rfl (lv_at hl 1 rfl) ?_
    refine lv_aload_n hx hb dX1_giveBack_20 rfl (lv_at hl 0 rfl) ?_
    refine lv_aload_n hx hb dX1_giveBack_21 rfl (lv_at hl 0 rfl) ?_
    refine w_get (C := RX1) (T := TX1) (N := 3) (ci := 1) (v := .int (nI (ke - 1))) hx hb hts hin1 hown hK hP 0 (by decide) rfl rfl 2 (by decide) (hts (.fieldLink RX1 22 "MixedBlocks$History" "kept" "I") (List.mem_of_getElem? (i := 1) rfl)) (fun _ h9 => h9) rfl dX1_giveBack_22 ?_
    refine va_callq (va_runV (As := [.int (nI (ke - 1))]) (rest := [.ref ((g2 0))]) ⟨hx, hb, hml, hown, hts⟩ (c_X1_stateAt l E g ol (ke - 1) (ke - 1) hol (by omega)) (cwV 1 hts gX1_giveBack_X1_stateAt rfl rfl rfl (by decide +kernel) ⟨Nat.le_of_ble_eq_true rfl, Nat.le_of_ble_eq_true rfl⟩) ⟨wS.blind, (w_recv hK hP 0 (by decide) rfl (ci := 1) rfl), fun U hU hW => wS.go hP hK (hI.le (by decide)) hU hW⟩ rfl rfl hl.1 rfl (lv_room (Nat.le_of_ble_eq_true rfl)) dX1_giveBack_25 ⟨Nat.zero_le _, Nat.zero_le _⟩) hS (fun q _ h => h.elim) (fun q h => h.elim) (fun r_3 uu t H_3 locs_3 ht hvm hw hB hz1 hk1 hS => ?_)
    have hP := hP.same hk1
    have hH := hH.same hk1
    have hQ := hQ.same hk1
    obtain rfl : r_3 = (some (g (2 + 12 * ((ol + (ke - 1)) % 6)))) := hw
    refine va_callv (va_runV (As := [.ref ((g (2 + 12 * ((ol + (ke - 1)) % 6))))]) (rest := []) ⟨hx, hb, hml, hown, hts⟩ (c_X4_become l E g2 nb2 va2 se2 rs2 (hg g ((ol + (ke - 1)) % 6)) (zs ((ol + (ke - 1)) % 6)).1 (zs ((ol + (ke - 1)) % 6)).2.1 (zs ((ol + (ke - 1)) % 6)).2.2.1 (zs ((ol + (ke - 1)) % 6)).2.2.2 hJ (hg_I hI hix) (hg_X hX hix).symm) (cwV 1 hts gX1_giveBack_X4_become rfl rfl rfl (by decide +kernel) ⟨Nat.le_of_ble_eq_true rfl, Nat.le_of_ble_eq_true rfl⟩) ⟨wS.blind, (w_recv hK hQ.1 0 (by decide) rfl (ci := 4) rfl), fun U hU hW => wS.go ⟨hQ, hH _ hix⟩ hK wI0 hU hW⟩ rfl rfl hl.1 rfl (lv_room (Nat.le_of_ble_eq_true rfl)) dX1_giveBack_28 ⟨Nat.zero_le _, Nat.zero_le _⟩) hS (fun q _ h => (hg_in' (g2 := g2) hix) q h) (hg_in' (g2 := g2) hix) (fun uu t H_4 locs_4 ht hvm hw hB hz1 hk1 hS => ?_)
    rw [ht] at hB
    have hk2 := fun (q : Nat) (h1 : q < _) (h2 : ¬ (wF 12 (hg g ((ol + (ke - 1)) % 6)) q ∨ wF 12 g2 q)) => hk1 q h1 (fun z => h2 z.symm)
    have hP := hP.other hk2 (hg_main hI hX hix)
    have hH := hH.set2 hI hX hix hk2 (z := zs ((ol + (ke - 1)) % 6)) hB.2
    rw [va_up_id] at hH
    have hQ := hB.1
    refine lv_iconst (v := 1) hx hb dX1_giveBack_31 (by decide) ?_
    exact W.zret (v := 1) hx hb hr rfl (fun t ht hW => ⟨⟨_, (), rfl, (bI_eq h0), (by show if 0 < ke then wP E 2 g (hiF E g ol (ke - 1)) (t.heap) ∧ hiS E g zs (t.heap) ∧ stT E g2 (zs ((ol + (ke - 1)) % 6)) (t.heap) else wP E 2 g (hiF E g ol ke) (t.heap) ∧ hiS E g zs (t.heap) ∧ stP E g2 nb2 va2 se2 rs2 (t.heap); rw [ht, if_pos h0]; exact ⟨hP, hH, hQ⟩)⟩, hS.F ht⟩) hS.2.2 dX1_giveBack_32
  · have h0 : ¬ 0 < ke := fun z => c_1 ((nI_ltI (a := 0) (b := ke) (by omega) (by omega)).mpr z)
    refine lv_iconst (v := 0) hx hb dX1_giveBack_7 (by decide) ?_
    exact W.zret (v := 0) hx hb hr rfl (fun t ht hW => ⟨⟨_, (), rfl, (bI_ne h0), (by show if 0 < ke then wP E 2 g (hiF E g ol (ke - 1)) (t.heap) ∧ hiS E g zs (t.heap) ∧ stT E g2 (zs ((ol + (ke - 1)) % 6)) (t.heap) else wP E 2 g (hiF E g ol ke) (t.heap) ∧ hiS E g zs (t.heap) ∧ stP E g2 nb2 va2 se2 rs2 (t.heap); rw [ht, if_neg h0]; exact ⟨hP, hH, hQ⟩)⟩, hS.F ht⟩) hS.2.2 dX1_giveBack_8
