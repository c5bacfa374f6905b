set_option maxHeartbeats 4000000 in
set_option maxRecDepth 100000 in
theorem c_X4_sendOne (l : Launch) (E : wE) (g : Nat → Nat) (nb : Nat) (va : Nat → Int32) (se : Int32) (rs : Nat → RR) (kk : Nat) (hkk : kk ≤ 9999) (hnb2 : 2 ≤ nb) (hnb : nb ≤ 12) : Met l yX4_sendOne wsX4_sendOne ({ frames := 5, cells := 0, slots := 0, locals := 126 }) (va_Pc [.ref ((g 0)), .int (nI kk)] (wSd E 12 g (wF 12 g) (stP E g nb va se rs))) (va_Qi (fun (r : Int32) (_ : Unit) => r = sumR (mixS nb va kk) rs 3) (fun _ t => stP E g nb va (se + 1) (mapR (gotR (mixS nb va kk)) rs 3) (t.heap)) (wF 12 g)) 0 0 (wF 12 g) := by
  refine Met.ofW (cc := cX4_sendOne) (maxL := 6) (ret := (some .int)) (by decide) rfl ?_
  intro p e s m args below meth c s₁ B hml hv
  obtain ⟨rfl, ⟨hP, hR⟩, hK, hI, hdg⟩ := hv
  have hx := B.exec
  have hb := B.bytes
  have hr := B.returns
  have hts := atoms_spec (ws := wsX4_sendOne) B.pre
  have hown : s.vm.findClass RX4 = some m.cls := findClass_of_methodNamed B.named
  have hlocks := B.notSynchronized
  have hS : va_S (wF 12 g) s.heap s.heap [] := va_S.rf
  have hin3 : ∀ w ∈ wsX30, w ∈ wsX4_sendOne := by decide +kernel
  have hin4 : ∀ w ∈ wsX40, w ∈ wsX4_sendOne := by decide +kernel
  have hA : ∀ k, k < 12 → (wF 12 g) (g k) := wF_in
  have hl := lv_entry ([.ref ((g 0)), .int (nI kk)]) (n := 6) (Nat.le_of_ble_eq_true rfl)
  rw [lg_entry_eq]
  generalize (lg_sl ([.ref ((g 0)), .int (nI kk)]) ++ List.replicate (6 - (lg_sl ([.ref ((g 0)), .int (nI kk)])).length) Slot.unset).toArray = ls at hl ⊢
  have hl : lv_has ls 6 [(0, .ref ((g 0))), (1, .int (nI kk))] := hl
  have hI9 : wI 3 g := hI.le (by decide)
  have hA : ∀ k, k < 3 → wF 12 g (g k) := fun k hk => wF_in k (by omega)
  refine lv_aload_n hx hb dX4_sendOne_0 rfl (lv_at hl 0 rfl) ?_
  refine lv_dup hx hb dX4_sendOne_1 rfl ?_
  refine w_get (C := RX4) (T := TX4) (N := 4) (ci := 4) (v := .int se) hx hb hts hin4 hown hK hP 0 (by decide) rfl rfl 2 (by decide) (hts (.fieldLink RX4 19 "MixedBlocks$State" "sent" "I") (List.mem_of_getElem? (i := 1) rfl)) (fun _ h9 => h9) rfl dX4_sendOne_2 ?_
  refine lv_iconst (v := 1) hx hb dX4_sendOne_5 (by decide) ?_
  refine lv_iadd hx hb dX4_sendOne_6 ?_
  refine w_putO (C := RX4) (T := TX4) (N := 4) (ci := 4) (v := .int ((se + 1))) (ty := .int) hx hb hts hin4 tyX4 tyX4_ok nmX4 hown hK hP hI9 hA hS 0 (by decide) rfl rfl 2 (by decide) (hts (.fieldLink RX4 19 "MixedBlocks$State" "sent" "I") (List.mem_of_getElem? (i := 1) rfl)) (fun _ h9 => h9) rfl (by decide +kernel) rfl rfl (Nat.le_of_ble_eq_true rfl) dX4_sendOne_7 (stF E g nb va (se + 1)) rfl st_ne0 (fun H_1 locs_1 hP hO hS => ?_)
  have hR := hR.put hI (by decide) hO
  refine lv_aload_n hx hb dX4_sendOne_10 rfl (lv_at hl 0 rfl) ?_
  refine lv_iload_n hx hb dX4_sendOne_11 rfl (lv_at hl 1 rfl) ?_
  refine va_calli (va_runV (As := [.int (nI kk)]) (rest := []) ⟨hx, hb, hml, hown, hts⟩ (c_X4_mixOf l E g nb va (se + 1) rs kk hkk hnb2 hnb) (cwV 1 hts gX4_sendOne_X4_mixOf rfl rfl rfl (by decide +kernel) ⟨Nat.le_of_ble_eq_true rfl, Nat.le_of_ble_eq_true rfl⟩) ⟨wSd.blind, (w_recv hK hP 0 (by decide) rfl (ci := 4) rfl), fun U hU hW => wSd.go ⟨hP, hR⟩ hK hI hdg hS (fun q h => h.elim) hU hW⟩ rfl rfl hl.1 rfl (lv_room (Nat.le_of_ble_eq_true rfl)) dX4_sendOne_12 ⟨Nat.zero_le _, Nat.zero_le _⟩) hS (fun q _ h => h.elim) (fun q h => h.elim) (fun r_2 uu t H_2 locs_2 ht hvm hw hB hz1 hk1 hS => ?_)
  have hP := hP.same hk1
  have hR := hR.same hk1
  obtain rfl : r_2 = (mixS nb va kk) := hw
  refine lv_istore_n (lv' := [(2, .int ((mixS nb va kk))), (0, .ref ((g 0))), (1, .int (nI kk))]) hx hb dX4_sendOne_15 rfl hl (by decide) rfl (fun ls hl => ?_)
  refine lv_iconst (v := 0) hx hb dX4_sendOne_16 (by decide) ?_
  refine lv_istore_n (lv' := [(3, .int 0), (2, .int ((mixS nb va kk))), (0, .ref ((g 0))), (1, .int (nI kk))]) hx hb dX4_sendOne_17 rfl hl (by decide) rfl (fun ls hl => ?_)
  refine lv_iconst (v := 0) hx hb dX4_sendOne_18 (by decide) ?_
  refine lv_istore (lv' := [(4, .int 0), (3, .int 0), (2, .int ((mixS nb va kk))), (0, .ref ((g 0))), (1, .int (nI kk))]) hx hb dX4_sendOne_19 hl (by decide) rfl (fun ls hl => ?_)
  rw [← mapR_0 (gotR (mixS nb va kk)) rs] at hR
  have L21 : ∀ (k : Nat) (i : Nat) (H : Heap) (locs : List Loc) (ls : Array Slot), i + k = 3 → wP E 3 g (stF E g nb va (se + 1)) H → stR E g (mapR (gotR (mixS nb va kk)) rs i) H → va_S (wF 12 g) s.heap H locs → lv_has ls 6 [(4, .int (nI i)), (3, .int ((sumR (mixS nb va kk) rs i))), (2, .int ((mixS nb va kk))), (0, .ref ((g 0))), (1, .int (nI kk))] → W p l e (headSpec wsX4_sendOne ({ frames := 5, cells := 0, slots := 0, locals := 126 })).room s m ([.ref ((g 0)), .int (nI kk)] : List Value).toArray below meth c H locs 0 0 (MQ below (va_Qi (fun (r : Int32) (_ : Unit) => r = sumR (mixS nb va kk) rs 3) (fun _ t => stP E g nb va (se + 1) (mapR (gotR (mixS nb va kk)) rs 3) (t.heap)) (wF 12 g)) ([.ref ((g 0)), .int (nI kk)] : List Value).toArray s 0 0 (wF 12 g)) (F0 m 21 ls []) := by
    intro k
    induction k with
    | zero =>
      intro i H locs ls hi hP hR hS hl
      refine lv_iload hx hb dX4_sendOne_21 (lv_at hl 0 rfl) ?_
      refine lv_aload_n hx hb dX4_sendOne_23 rfl (lv_at hl 3 rfl) ?_
      refine w_get (C := RX4) (T := TX4) (N := 4) (ci := 4) (v := .ref ((g 2))) hx hb hts hin4 hown hK hP 0 (by decide) rfl rfl 3 (by decide) (hts (.fieldLink RX4 24 "MixedBlocks$State" "receivers" "[LMixedBlocks$Receiver;") (List.mem_of_getElem? (i := 2) rfl)) (fun _ h9 => h9) rfl dX4_sendOne_24 ?_
      refine w_alenq (v := 3) hx hb hK hP 2 (by decide) 1 rfl rfl rfl dX4_sendOne_27 ?_
      refine lv_icmp_ge (tgt := 68) hx hb dX4_sendOne_28 (by decide) (fun c_3 => ?_) (fun c_3 => ?_)
      · have n_3 : 3 ≤ i := (nI_leI (a := 3) (b := i) (by omega) (by omega)).mp c_3
        refine lv_iload_n hx hb dX4_sendOne_68 rfl (lv_at hl 1 rfl) ?_
        rw [show i = 3 from by omega] at hR
        exact W.iret (v := (sumR (mixS nb va kk) rs i)) hx hb hr (fun t ht hW => ⟨⟨_, (), rfl, (by show _ = _; rw [show i = 3 from by omega]), (by show stP E g nb va (se + 1) (mapR (gotR (mixS nb va kk)) rs 3) t.heap; rw [ht]; exact ⟨hP, hR⟩)⟩, hS.F ht⟩) hS.2.2 dX4_sendOne_69
      · have n_3 : ¬ 3 ≤ i := fun z => c_3 ((nI_leI (a := 3) (b := i) (by omega) (by omega)).mpr z)
        exfalso
        omega
    | succ k ih =>
      intro i H locs ls hi hP hR hS hl
      refine lv_iload hx hb dX4_sendOne_21 (lv_at hl 0 rfl) ?_
      refine lv_aload_n hx hb dX4_sendOne_23 rfl (lv_at hl 3 rfl) ?_
      refine w_get (C := RX4) (T := TX4) (N := 4) (ci := 4) (v := .ref ((g 2))) hx hb hts hin4 hown hK hP 0 (by decide) rfl rfl 3 (by decide) (hts (.fieldLink RX4 24 "MixedBlocks$State" "receivers" "[LMixedBlocks$Receiver;") (List.mem_of_getElem? (i := 2) rfl)) (fun _ h9 => h9) rfl dX4_sendOne_24 ?_
      refine w_alenq (v := 3) hx hb hK hP 2 (by decide) 1 rfl rfl rfl dX4_sendOne_27 ?_
      refine lv_icmp_ge (tgt := 68) hx hb dX4_sendOne_28 (by decide) (fun c_4 => ?_) (fun c_4 => ?_)
      · have n_4 : 3 ≤ i := (nI_leI (a := 3) (b := i) (by omega) (by omega)).mp c_4
        exfalso
        omega
      · have n_4 : ¬ 3 ≤ i := fun z => c_4 ((nI_leI (a := 3) (b := i) (by omega) (by omega)).mpr z)
        refine lv_aload_n hx hb dX4_sendOne_31 rfl (lv_at hl 3 rfl) ?_
        refine w_get (C := RX4) (T := TX4) (N := 4) (ci := 4) (v := .ref ((g 2))) hx hb hts hin4 hown hK hP 0 (by decide) rfl rfl 3 (by decide) (hts (.fieldLink RX4 24 "MixedBlocks$State" "receivers" "[LMixedBlocks$Receiver;") (List.mem_of_getElem? (i := 2) rfl)) (fun _ h9 => h9) rfl dX4_sendOne_32 ?_
        refine lv_iload hx hb dX4_sendOne_35 (lv_at hl 0 rfl) ?_
        refine w_aldq hx hb hK hP 2 (by decide) 1 rfl rfl (vp_in_nI (by omega) (by decide)) dX4_sendOne_37 ?_
        rw [nI_clamp (by omega)]
        refine lv_astore (lv' := [(5, .ref ((g (3 + 3 * i)))), (4, .int (nI i)), (3, .int ((sumR (mixS nb va kk) rs i))), (2, .int ((mixS nb va kk))), (0, .ref ((g 0))), (1, .int (nI kk))]) hx hb dX4_sendOne_38 hl (by decide) rfl (fun ls hl => ?_)
        refine lv_aload hx hb dX4_sendOne_40 (lv_at hl 0 rfl) ?_
        have hRi := hR i (by omega)
        rw [mapR_at] at hRi
        obtain ⟨hlnI, lfI, hlfI, hPI⟩ := id hRi
        refine lv_ifnull hx hb dX4_sendOne_42 ?_
        refine lv_aload hx hb dX4_sendOne_45 (lv_at hl 0 rfl) ?_
        refine w_getN (C := RX3) (T := TX3) (N := 8) (ci := 3) (v := .int ((bI (rs i).1))) hx hb hts hin3 hown hK hPI 0 (by decide) rfl rfl 0 (by decide) nf_X4_51 (fun _ h9 => h9) rfl dX4_sendOne_47 ?_
        refine lv_if_eq (tgt := 62) hx hb dX4_sendOne_50 (by decide) (fun c_5 => ?_) (fun c_5 => ?_)
        · refine lv_iinc (v := (nI (i + 1))) (lv' := [(4, .int (nI (i + 1))), (5, .ref ((g (3 + 3 * i)))), (3, .int ((sumR (mixS nb va kk) rs i))), (2, .int ((mixS nb va kk))), (0, .ref ((g 0))), (1, .int (nI kk))]) hx hb dX4_sendOne_62 hl (k := 1) rfl (nI_1 _) (by decide) rfl (fun ls hl => ?_)
          refine lv_goto (tgt := 21) hx hb dX4_sendOne_65 (by decide) ?_
          rw [mapR_id (gotR_n (bI_0 c_5))] at hR
          have hs2 := sumR_n (x := (mixS nb va kk)) (bI_0 c_5)
          rw [hs2] at hl
          exact ih (i + 1) _ _ ls (by omega) hP hR hS (lv_sub hl [0, 2, 3, 4, 5] rfl)
        · refine lv_iload_n hx hb dX4_sendOne_53 rfl (lv_at hl 2 rfl) ?_
          refine lv_aload hx hb dX4_sendOne_54 (lv_at hl 0 rfl) ?_
          refine lv_iload_n hx hb dX4_sendOne_56 rfl (lv_at hl 3 rfl) ?_
          refine va_calli (va_runV (As := [.int ((mixS nb va kk))]) (rest := [.int ((sumR (mixS nb va kk) rs i))]) ⟨hx, hb, hml, hown, hts⟩ (c_X3_get l E (rg g i) (rs i).1 (rs i).2.1 (rs i).2.2.1 (rs i).2.2.2.1 (rs i).2.2.2.2.1 (rs i).2.2.2.2.2.1 (rs i).2.2.2.2.2.2 (mixS nb va kk)) (cwV 1 hts gX4_sendOne_X3_get rfl rfl rfl (by decide +kernel) ⟨Nat.le_of_ble_eq_true rfl, Nat.le_of_ble_eq_true rfl⟩) ⟨wS.blind, (w_recv hK hPI 0 (by decide) rfl (ci := 3) rfl), fun U hU hW => wS.go hRi hK (rg_I hI (by omega)) hU hW⟩ rfl rfl hl.1 rfl (lv_room (Nat.le_of_ble_eq_true rfl)) dX4_sendOne_57 ⟨Nat.zero_le _, Nat.zero_le _⟩) hS (fun q _ h => rg_in (by omega) q h) (fun q h => rg_in (by omega) q h) (fun r_6 uu t H_6 locs_6 ht hvm hw hB hz1 hk1 hS => ?_)
          have hP := hP.other hk1 (rg_main hI (by omega))
          rw [ht] at hB
          have hgy := gotR_y (x := (mixS nb va kk)) (bI_1 c_5)
          have hR := hR.set hI (by omega) hk1 (r := gotR (mixS nb va kk) (rs i)) (by rw [hgy]; exact hB)
          rw [mapR_s] at hR
          obtain rfl : r_6 = (getS (mixS nb va kk) (rs i).2).1 := hw
          refine lv_iadd hx hb dX4_sendOne_60 ?_
          refine lv_istore_n (lv' := [(3, .int (((sumR (mixS nb va kk) rs i) + ((getS (mixS nb va kk) (rs i).2).1)))), (5, .ref ((g (3 + 3 * i)))), (4, .int (nI i)), (2, .int ((mixS nb va kk))), (0, .ref ((g 0))), (1, .int (nI kk))]) hx hb dX4_sendOne_61 rfl hl (by decide) rfl (fun ls hl => ?_)
          refine lv_iinc (v := (nI (i + 1))) (lv' := [(4, .int (nI (i + 1))), (3, .int (((sumR (mixS nb va kk) rs i) + ((getS (mixS nb va kk) (rs i).2).1)))), (5, .ref ((g (3 + 3 * i)))), (2, .int ((mixS nb va kk))), (0, .ref ((g 0))), (1, .int (nI kk))]) hx hb dX4_sendOne_62 hl (k := 2) rfl (nI_1 _) (by decide) rfl (fun ls hl => ?_)
          refine lv_goto (tgt := 21) hx hb dX4_sendOne_65 (by decide) ?_
          have hs2 := sumR_y (x := (mixS nb va kk)) (bI_1 c_5)
          rw [hs2] at hl
          exact ih (i + 1) _ _ ls (by omega) hP hR hS (lv_sub hl [0, 1, 3, 4, 5] rfl)
  exact L21 3 0 _ _ ls rfl hP hR hS (lv_sub hl [0, 1, 2, 3, 4] rfl)
set_option maxHeartbeats 4000000 in
set_option maxRecDepth 100000 in
theorem c_X4_become (l : Launch) (E : wE) (g : Nat → Nat) (nb : Nat) (va : Nat → Int32) (se : Int32) (rs : Nat → RR) (g2 : Nat → Nat) (nb2 : Nat) (va2 : Nat → Int32) (se2 : Int32) (rs2 : Nat → RR) (hI : wI 12 g) (hJ : wI 12 g2) (hX : wX 12 g 12 g2) : Met l yX4_become wsX4_become ({ frames := 3, cells := 0, slots := 0, locals := 106 }) (va_Pc [.ref ((g 0)), .ref ((g2 0))] (wS E 0 g (fun H => stP E g nb va se rs H ∧ stP E g2 nb2 va2 se2 rs2 H))) (va_Qv (fun (_ : Unit) => True) (fun _ t => stP E g nb2 va2 se2 rs2 (t.heap) ∧ stP E g2 nb2 va2 se2 rs2 (t.heap)) (fun q => wF 12 g q ∨ wF 12 g2 q)) 0 0 (fun q => wF 12 g q ∨ wF 12 g2 q) := by
  refine Met.ofW (cc := cX4_become) (maxL := 4) (ret := none) (by decide) rfl ?_
  intro p e s m args below meth c s₁ B hml hv
  obtain ⟨rfl, ⟨⟨hP, hR⟩, ⟨hQ, hT⟩⟩, hK, hI0⟩ := hv
  have hx := B.exec
  have hb := B.bytes
  have hr := B.returns
  have hts := atoms_spec (ws := wsX4_become) B.pre
  have hown : s.vm.findClass RX4 = some m.cls := findClass_of_methodNamed B.named
  have hlocks := B.notSynchronized
  have hS : va_S (fun q => wF 12 g q ∨ wF 12 g2 q) s.heap s.heap [] := va_S.rf
  have hin4 : ∀ w ∈ wsX40, w ∈ wsX4_become := by decide +kernel
  have hl := lv_entry ([.ref ((g 0)), .ref ((g2 0))]) (n := 4) (Nat.le_of_ble_eq_true rfl)
  rw [lg_entry_eq]
  generalize (lg_sl ([.ref ((g 0)), .ref ((g2 0))]) ++ List.replicate (4 - (lg_sl ([.ref ((g 0)), .ref ((g2 0))])).length) Slot.unset).toArray = ls at hl ⊢
  have hl : lv_has ls 4 [(0, .ref ((g 0))), (1, .ref ((g2 0)))] := hl
  have hI9 : wI 3 g := hI.le (by decide)
  have hA : ∀ k, k < 3 → (fun q => wF 12 g q ∨ wF 12 g2 q) (g k) := fun k hk => Or.inl (wF_in k (by omega))
  refine lv_aload_n hx hb dX4_become_0 rfl (lv_at hl 1 rfl) ?_
  refine lv_ifnonnull (tgt := 5) hx hb dX4_become_1 (by decide) ?_
  refine lv_aload_n hx hb dX4_become_5 rfl (lv_at hl 0 rfl) ?_
  refine lv_aload_n hx hb dX4_become_6 rfl (lv_at hl 1 rfl) ?_
  refine w_get (C := RX4) (T := TX4) (N := 4) (ci := 4) (v := .int (nI nb2)) hx hb hts hin4 hown hK hQ 0 (by decide) rfl rfl 0 (by decide) (hts (.fieldLink RX4 9 "MixedBlocks$State" "blocks" "I") (List.mem_of_getElem? (i := 1) rfl)) (fun _ h9 => h9) rfl dX4_become_7 ?_
  refine w_putO (C := RX4) (T := TX4) (N := 4) (ci := 4) (v := .int (nI nb2)) (ty := .int) hx hb hts hin4 tyX4 tyX4_ok nmX4 hown hK hP hI9 hA hS 0 (by decide) rfl rfl 0 (by decide) (hts (.fieldLink RX4 9 "MixedBlocks$State" "blocks" "I") (List.mem_of_getElem? (i := 1) rfl)) (fun _ h9 => h9) rfl (by decide +kernel) rfl rfl (Nat.le_of_ble_eq_true rfl) dX4_become_10 (stF E g nb2 va se) rfl st_ne0 (fun H_1 locs_1 hP hO hS => ?_)
  have hR := hR.put hI (by decide) hO
  have hQ := hQ.keep (fun k hk => hO _ (fun e => hX 0 k (by decide) (by omega) e.symm))
  have hT : stR E g2 rs2 _ := fun i hi => (hT i hi).keep (fun k hk => hO _ (fun e => hX 0 (3 + 3 * i + k) (by decide) (by omega) e.symm))
  refine lv_aload_n hx hb dX4_become_13 rfl (lv_at hl 0 rfl) ?_
  refine lv_aload_n hx hb dX4_become_14 rfl (lv_at hl 1 rfl) ?_
  refine w_get (C := RX4) (T := TX4) (N := 4) (ci := 4) (v := .int se2) hx hb hts hin4 hown hK hQ 0 (by decide) rfl rfl 2 (by decide) (hts (.fieldLink RX4 19 "MixedBlocks$State" "sent" "I") (List.mem_of_getElem? (i := 2) rfl)) (fun _ h9 => h9) rfl dX4_become_15 ?_
  refine w_putO (C := RX4) (T := TX4) (N := 4) (ci := 4) (v := .int se2) (ty := .int) hx hb hts hin4 tyX4 tyX4_ok nmX4 hown hK hP hI9 hA hS 0 (by decide) rfl rfl 2 (by decide) (hts (.fieldLink RX4 19 "MixedBlocks$State" "sent" "I") (List.mem_of_getElem? (i := 2) rfl)) (fun _ h9 => h9) rfl (by decide +kernel) rfl rfl (Nat.le_of_ble_eq_true rfl) dX4_become_18 (stF E g nb2 va se2) rfl st_ne0 (fun H_2 locs_2 hP hO hS => ?_)
  have hR := hR.put hI (by decide) hO
  have hQ := hQ.keep (fun k hk => hO _ (fun e => hX 0 k (by decide) (by omega) e.symm))
  have hT : stR E g2 rs2 _ := fun i hi => (hT i hi).keep (fun k hk => hO _ (fun e => hX 0 (3 + 3 * i + k) (by decide) (by omega) e.symm))
  refine lv_aload_n hx hb dX4_become_21 rfl (lv_at hl 1 rfl) ?_
  refine w_get (C := RX4) (T := TX4) (N := 4) (ci := 4) (v := .ref ((g2 1))) hx hb hts hin4 hown hK hQ 0 (by decide) rfl rfl 1 (by decide) (hts (.fieldLink RX4 15 "MixedBlocks$State" "values" "[I") (List.mem_of_getElem? (i := 3) rfl)) (fun _ h9 => h9) rfl dX4_become_22 ?_
  refine lv_aload_n hx hb dX4_become_25 rfl (lv_at hl 0 rfl) ?_
  refine w_get (C := RX4) (T := TX4) (N := 4) (ci := 4) (v := .ref ((g 1))) hx hb hts hin4 hown hK hP 0 (by decide) rfl rfl 1 (by decide) (hts (.fieldLink RX4 15 "MixedBlocks$State" "values" "[I") (List.mem_of_getElem? (i := 3) rfl)) (fun _ h9 => h9) rfl dX4_become_26 ?_
  refine va_callv (va_runSN (As := [.ref ((g2 1)), .ref ((g 1))]) (rest := []) ⟨hx, hb, hml, hown, hts⟩ (c_X5_copyRow l E (cpG (g2 1) (g 1)) 12 va2 va (by decide)) ⟨va_cnB 2 hts gX4_become_X5_copyRow_n29 rfl rfl rfl (hK.2 _ nm_X4_29) (hts (.initialized RX5) (List.mem_of_getElem? (i := 6) rfl)) (by decide +kernel) ⟨Nat.le_of_ble_eq_true rfl, Nat.le_of_ble_eq_true rfl⟩, (hts (.static yX5_copyRow) (List.mem_of_getElem? (i := 5) rfl)), trivial⟩ ⟨wS.blind, fun U hU hW => wS.go (cp_mk (wP_at.mp hQ 1 (by decide)) (wP_at.mp hP 1 (by decide))) hK (cpG_I (fun e => hX 1 1 (by decide) (by decide) e.symm)) hU hW⟩ rfl rfl hl.1 rfl (lv_room (Nat.le_of_ble_eq_true rfl)) dX4_become_29 ⟨Nat.zero_le _, Nat.zero_le _⟩) hS (fun q _ h => (cpG_sub (A := fun q => wF 12 g q ∨ wF 12 g2 q) (Or.inr ⟨1, by decide, rfl⟩) (Or.inl ⟨1, by decide, rfl⟩)) q h) (cpG_sub (A := fun q => wF 12 g q ∨ wF 12 g2 q) (Or.inr ⟨1, by decide, rfl⟩) (Or.inl ⟨1, by decide, rfl⟩)) (fun uu t H_3 locs_3 ht hvm hw hB hz1 hk1 hS => ?_)
  rw [ht] at hB
  have hP : wP E 3 g (stF E g nb2 (va_cpy va2 va 0 0 12) se2) H_3 := hP.cell 1 (wP_at.mp hB 1 (by decide)) hk1 (fun k hk hne h => by rcases cpG_F h with e | e; exact hX k 1 (by omega) (by decide) e; exact hne (hI9 k 1 hk (by decide) e)) st_ne1
  have hQ : wP E 3 g2 (stF E g2 nb2 va2 se2) H_3 := hQ.cell 1 (wP_at.mp hB 0 (by decide)) hk1 (fun k hk hne h => by rcases cpG_F h with e | e; exact hne (hJ k 1 (by omega) (by decide) e); exact hX 1 k (by decide) (by omega) e.symm) (fun _ _ _ => rfl)
  have hR : stR E g rs H_3 := fun i hi => (hR i hi).other hk1 (fun k hk h => by rcases cpG_F h with e | e; exact hX (3 + 3 * i + k) 1 (by omega) (by decide) e; have := hI (3 + 3 * i + k) 1 (by omega) (by decide) e; omega)
  have hT : stR E g2 rs2 H_3 := fun i hi => (hT i hi).other hk1 (fun k hk h => by rcases cpG_F h with e | e; have := hJ (3 + 3 * i + k) 1 (by omega) (by decide) e; omega; exact hX 1 (3 + 3 * i + k) (by decide) (by omega) e.symm)
  refine lv_iconst (v := 0) hx hb dX4_become_32 (by decide) ?_
  refine lv_istore_n (lv' := [(2, .int 0), (0, .ref ((g 0))), (1, .ref ((g2 0)))]) hx hb dX4_become_33 rfl hl (by decide) rfl (fun ls hl => ?_)
  rw [← spR_0 rs2 rs] at hR
  have L34 : ∀ (k : Nat) (i : Nat) (H : Heap) (locs : List Loc) (ls : Array Slot), i + k = 3 → wP E 3 g (stF E g nb2 (va_cpy va2 va 0 0 12) se2) H → stR E g (spR rs2 rs i) H → wP E 3 g2 (stF E g2 nb2 va2 se2) H → stR E g2 rs2 H → va_S (fun q => wF 12 g q ∨ wF 12 g2 q) s.heap H locs → lv_has ls 4 [(2, .int (nI i)), (0, .ref ((g 0))), (1, .ref ((g2 0)))] → W p l e (headSpec wsX4_become ({ frames := 3, cells := 0, slots := 0, locals := 106 })).room s m ([.ref ((g 0)), .ref ((g2 0))] : List Value).toArray below meth c H locs 0 0 (MQ below (va_Qv (fun (_ : Unit) => True) (fun _ t => stP E g nb2 va2 se2 rs2 (t.heap) ∧ stP E g2 nb2 va2 se2 rs2 (t.heap)) (fun q => wF 12 g q ∨ wF 12 g2 q)) ([.ref ((g 0)), .ref ((g2 0))] : List Value).toArray s 0 0 (fun q => wF 12 g q ∨ wF 12 g2 q)) (F0 m 34 ls []) := by
    intro k
    induction k with
    | zero =>
      intro i H locs ls hi hP hR hQ hT hS hl
      refine lv_iload_n hx hb dX4_become_34 rfl (lv_at hl 0 rfl) ?_
      refine lv_aload_n hx hb dX4_become_35 rfl (lv_at hl 1 rfl) ?_
      refine w_get (C := RX4) (T := TX4) (N := 4) (ci := 4) (v := .ref ((g 2))) hx hb hts hin4 hown hK hP 0 (by decide) rfl rfl 3 (by decide) (hts (.fieldLink RX4 24 "MixedBlocks$State" "receivers" "[LMixedBlocks$Receiver;") (List.mem_of_getElem? (i := 4) rfl)) (fun _ h9 => h9) rfl dX4_become_36 ?_
      refine w_alenq (v := 3) hx hb hK hP 2 (by decide) 1 rfl rfl rfl dX4_become_39 ?_
      refine lv_icmp_ge (tgt := 69) hx hb dX4_become_40 (by decide) (fun c_4 => ?_) (fun c_4 => ?_)
      · have n_4 : 3 ≤ i := (nI_leI (a := 3) (b := i) (by omega) (by omega)).mp c_4
        rw [show i = 3 from by omega] at hR
        exact W.vret hx hb hr (fun t ht hW => ⟨⟨(), rfl, trivial, (by show stP E g nb2 va2 se2 rs2 t.heap ∧ stP E g2 nb2 va2 se2 rs2 t.heap; rw [ht]; exact ⟨⟨stF_va hP (fun j hj => cpy_at hj), hR.cg (fun i hi => if_pos hi)⟩, ⟨hQ, hT⟩⟩)⟩, hS.F ht⟩) hS.2.2 dX4_become_69
      · have n_4 : ¬ 3 ≤ i := fun z => c_4 ((nI_leI (a := 3) (b := i) (by omega) (by omega)).mpr z)
        exfalso
        omega
    | succ k ih =>
      intro i H locs ls hi hP hR hQ hT hS hl
      refine lv_iload_n hx hb dX4_become_34 rfl (lv_at hl 0 rfl) ?_
      refine lv_aload_n hx hb dX4_become_35 rfl (lv_at hl 1 rfl) ?_
      refine w_get (C := RX4) (T := TX4) (N := 4) (ci := 4) (v := .ref ((g 2))) hx hb hts hin4 hown hK hP 0 (by decide) rfl rfl 3 (by decide) (hts (.fieldLink RX4 24 "MixedBlocks$State" "receivers" "[LMixedBlocks$Receiver;") (List.mem_of_getElem? (i := 4) rfl)) (fun _ h9 => h9) rfl dX4_become_36 ?_
      refine w_alenq (v := 3) hx hb hK hP 2 (by decide) 1 rfl rfl rfl dX4_become_39 ?_
      refine lv_icmp_ge (tgt := 69) hx hb dX4_become_40 (by decide) (fun c_5 => ?_) (fun c_5 => ?_)
      · have n_5 : 3 ≤ i := (nI_leI (a := 3) (b := i) (by omega) (by omega)).mp c_5
        exfalso
        omega
      · have n_5 : ¬ 3 ≤ i := fun z => c_5 ((nI_leI (a := 3) (b := i) (by omega) (by omega)).mpr z)
        refine lv_aload_n hx hb dX4_become_43 rfl (lv_at hl 1 rfl) ?_
        refine w_get (C := RX4) (T := TX4) (N := 4) (ci := 4) (v := .ref ((g 2))) hx hb hts hin4 hown hK hP 0 (by decide) rfl rfl 3 (by decide) (hts (.fieldLink RX4 24 "MixedBlocks$State" "receivers" "[LMixedBlocks$Receiver;") (List.mem_of_getElem? (i := 4) rfl)) (fun _ h9 => h9) rfl dX4_become_44 ?_
        refine lv_iload_n hx hb dX4_become_47 rfl (lv_at hl 0 rfl) ?_
        refine w_aldq hx hb hK hP 2 (by decide) 1 rfl rfl (vp_in_nI (by omega) (by decide)) dX4_become_48 ?_
        rw [nI_clamp (by omega)]
        refine lv_astore_n (lv' := [(3, .ref ((g (3 + 3 * i)))), (2, .int (nI i)), (0, .ref ((g 0))), (1, .ref ((g2 0)))]) hx hb dX4_become_49 rfl hl (by decide) rfl (fun ls hl => ?_)
        refine lv_aload_n hx hb dX4_become_50 rfl (lv_at hl 0 rfl) ?_
        have hRi := hR i (by omega)
        rw [spR_at] at hRi
        obtain ⟨hlnI, lfI, hlfI, hPI⟩ := id hRi
        refine lv_ifnull hx hb dX4_become_51 ?_
        refine lv_aload_n hx hb dX4_become_54 rfl (lv_at hl 0 rfl) ?_
        refine lv_aload_n hx hb dX4_become_55 rfl (lv_at hl 3 rfl) ?_
        refine lv_iload_n hx hb dX4_become_56 rfl (lv_at hl 1 rfl) ?_
        refine va_callq (va_runV (As := [.int (nI i)]) (rest := [.ref ((g (3 + 3 * i)))]) ⟨hx, hb, hml, hown, hts⟩ (c_X4_receiverAt l E g2 nb2 va2 se2 rs2 (nI i)) (cwV 1 hts gX4_become_X4_receiverAt rfl rfl rfl (by decide +kernel) ⟨Nat.le_of_ble_eq_true rfl, Nat.le_of_ble_eq_true rfl⟩) ⟨wS.blind, (w_recv hK hQ 0 (by decide) rfl (ci := 4) rfl), fun U hU hW => wS.go ⟨hQ, hT⟩ hK hJ hU hW⟩ rfl rfl hl.1 rfl (lv_room (Nat.le_of_ble_eq_true rfl)) dX4_become_57 ⟨Nat.zero_le _, Nat.zero_le _⟩) hS (fun q _ h => h.elim) (fun q h => h.elim) (fun r_6 uu t H_6 locs_6 ht hvm hw hB hz1 hk1 hS => ?_)
        have hP := hP.same hk1
        have hR := hR.same hk1
        have hQ := hQ.same hk1
        have hT := hT.same hk1
        obtain rfl : r_6 = (if nI i < 0 then none else if (3 : Int32) ≤ nI i then none else some (g2 (3 + 3 * (nI i).toNatClampNeg))) := hw
        rw [if_neg (nI_pos (by omega)), if_neg (show ¬ (3 : Int32) ≤ nI i from fun z => absurd ((nI_leI (a := 3) (b := i) (by omega) (by omega)).mp z) (by omega)), nI_clamp (by omega)]
        have hTi := hT i (by omega)
        have hRi := hR i (by omega)
        rw [spR_at] at hRi
        obtain ⟨hlnI, lfI, hlfI, hPI⟩ := id hRi
        refine va_callv (va_runV (As := [.ref ((g2 (3 + 3 * i)))]) (rest := []) ⟨hx, hb, hml, hown, hts⟩ (c_X3_become l E (rg g i) (rs i).1 (rs i).2.1 (rs i).2.2.1 (rs i).2.2.2.1 (rs i).2.2.2.2.1 (rs i).2.2.2.2.2.1 (rs i).2.2.2.2.2.2 (rg g2 i) (rs2 i).1 (rs2 i).2.1 (rs2 i).2.2.1 (rs2 i).2.2.2.1 (rs2 i).2.2.2.2.1 (rs2 i).2.2.2.2.2.1 (rs2 i).2.2.2.2.2.2 (rg_I hI (by omega)) (rg_I hJ (by omega)) (rg_X hX (by omega))) (cwV 1 hts gX4_become_X3_become rfl rfl rfl (by decide +kernel) ⟨Nat.le_of_ble_eq_true rfl, Nat.le_of_ble_eq_true rfl⟩) ⟨wS.blind, (w_recv hK hPI 0 (by decide) rfl (ci := 3) rfl), fun U hU hW => wS.go ⟨hRi, hTi⟩ hK wI0 hU hW⟩ rfl rfl hl.1 rfl (lv_room (Nat.le_of_ble_eq_true rfl)) dX4_become_60 ⟨Nat.zero_le _, Nat.zero_le _⟩) hS (fun q _ h => (rg_in2 (g := g) (g2 := g2) (i := i) (by omega)) q h) (rg_in2 (g := g) (g2 := g2) (i := i) (by omega)) (fun uu t H_7 locs_7 ht hvm hw hB hz1 hk1 hS => ?_)
        rw [ht] at hB
        have hP := hP.other hk1 (fun k hk h => h.elim (rg_main hI (by omega) k hk) (fun ⟨j, hj, e⟩ => hX k (3 + 3 * i + j) (by omega) (by omega) e))
        have hQ := hQ.other hk1 (fun k hk h => h.elim (fun ⟨j, hj, e⟩ => hX (3 + 3 * i + j) k (by omega) (by omega) e.symm) (rg_main hJ (by omega) k hk))
        have hR := stR.set2 hI hX hR (by omega) hk1 (r := rs2 i) hB.1
        have hT := stR.set3 hJ hX hT (by omega) hk1 hB.2
        rw [spR_s] at hR
        refine lv_iinc (v := (nI (i + 1))) (lv' := [(2, .int (nI (i + 1))), (3, .ref ((g (3 + 3 * i)))), (0, .ref ((g 0))), (1, .ref ((g2 0)))]) hx hb dX4_become_63 hl (k := 1) rfl (nI_1 _) (by decide) rfl (fun ls hl => ?_)
        refine lv_goto (tgt := 34) hx hb dX4_become_66 (by decide) ?_
        exact ih (i + 1) _ _ ls (by omega) hP hR hQ hT hS (lv_sub hl [0, 2, 3] rfl)
  exact L34 3 0 _ _ ls rfl hP hR hQ hT hS (lv_sub hl [0, 1, 2] rfl)
