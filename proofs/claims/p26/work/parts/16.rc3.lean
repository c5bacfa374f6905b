set_option maxHeartbeats 4000000 in
set_option maxRecDepth 100000 in
theorem c_X3_peelFrom (l : Launch) (E : wE) (g : Nat → Nat) (li : Bool) (kb : Int32) (al : Nat → Int32) (L : List Int32) (go tn lo : Int32) (x : Int32) : Met l yX3_peelFrom wsX3_peelFrom ({ frames := 3, cells := 0, slots := 0, locals := 61 }) (va_Pc [.ref ((g 0)), .int x] (wS E 3 g (rcP E g li kb al L go tn lo))) (va_Qi (fun (r : Int32) (_ : Unit) => r = (peelS L.length x (kb, al, L, tn, 0)).2.2.2.2) (fun _ t => rcP E g li (peelS L.length x (kb, al, L, tn, 0)).1 (peelS L.length x (kb, al, L, tn, 0)).2.1 (peelS L.length x (kb, al, L, tn, 0)).2.2.1 go (peelS L.length x (kb, al, L, tn, 0)).2.2.2.1 lo (t.heap)) (wF 3 g)) 0 0 (wF 3 g) := by
  refine Met.ofW (cc := cX3_peelFrom) (maxL := 6) (ret := (some .int)) (by decide) rfl ?_
  intro p e s m args below meth c s₁ B hml hv
  obtain ⟨rfl, ⟨hln, lf, hlf, hP⟩, hK, hI⟩ := hv
  have hx := B.exec
  have hb := B.bytes
  have hr := B.returns
  have hts := atoms_spec (ws := wsX3_peelFrom) B.pre
  have hown : s.vm.findClass RX3 = some m.cls := findClass_of_methodNamed B.named
  have hlocks := B.notSynchronized
  have hS : va_S (wF 3 g) s.heap s.heap [] := va_S.rf
  have hin3 : ∀ w ∈ wsX30, w ∈ wsX3_peelFrom := by decide +kernel
  have hA : ∀ k, k < 3 → (wF 3 g) (g k) := wF_in
  have hl := lv_entry ([.ref ((g 0)), .int x]) (n := 6) (Nat.le_of_ble_eq_true rfl)
  rw [lg_entry_eq]
  generalize (lg_sl ([.ref ((g 0)), .int x]) ++ List.replicate (6 - (lg_sl ([.ref ((g 0)), .int x])).length) Slot.unset).toArray = ls at hl ⊢
  have hl : lv_has ls 6 [(0, .ref ((g 0))), (1, .int x)] := hl
  refine lv_iconst (v := 0) hx hb dX3_peelFrom_0 (by decide) ?_
  refine lv_istore_n (lv' := [(2, .int 0), (0, .ref ((g 0))), (1, .int x)]) hx hb dX3_peelFrom_1 rfl hl (by decide) rfl (fun ls hl => ?_)
  refine lv_iload_n hx hb dX3_peelFrom_2 rfl (lv_at hl 2 rfl) ?_
  refine lv_istore_n (lv' := [(3, .int x), (2, .int 0), (0, .ref ((g 0))), (1, .int x)]) hx hb dX3_peelFrom_3 rfl hl (by decide) rfl (fun ls hl => ?_)
  refine lv_iconst (v := 0) hx hb dX3_peelFrom_4 (by decide) ?_
  refine lv_istore (lv' := [(4, .int 0), (3, .int x), (2, .int 0), (0, .ref ((g 0))), (1, .int x)]) hx hb dX3_peelFrom_5 hl (by decide) rfl (fun ls hl => ?_)
  have L7 : ∀ (k : Nat) (i : Nat) (x2 kb2 : Int32) (al2 : Nat → Int32) (L2 : List Int32) (lf2 : Nat → Int32) (tn2 fd2 : Int32) (H : Heap) (locs : List Loc) (ls : Array Slot), L2.length = k → i + k ≤ 24 → peelS k x2 (kb2, al2, L2, tn2, fd2) = peelS L.length x (kb, al, L, tn, 0) → L2.length ≤ 24 → (∀ j, j < L2.length → lf2 j = L2.getD j 0) → wP E 3 g (rcF E g li kb2 al2 lf2 L2.length go tn2 lo) H → va_S (wF 3 g) s.heap H locs → lv_has ls 6 [(4, .int (nI i)), (3, .int x2), (2, .int fd2), (0, .ref ((g 0))), (1, .int x)] → W p l e (headSpec wsX3_peelFrom ({ frames := 3, cells := 0, slots := 0, locals := 61 })).room s m ([.ref ((g 0)), .int x] : List Value).toArray below meth c H locs 0 0 (MQ below (va_Qi (fun (r : Int32) (_ : Unit) => r = (peelS L.length x (kb, al, L, tn, 0)).2.2.2.2) (fun _ t => rcP E g li (peelS L.length x (kb, al, L, tn, 0)).1 (peelS L.length x (kb, al, L, tn, 0)).2.1 (peelS L.length x (kb, al, L, tn, 0)).2.2.1 go (peelS L.length x (kb, al, L, tn, 0)).2.2.2.1 lo (t.heap)) (wF 3 g)) ([.ref ((g 0)), .int x] : List Value).toArray s 0 0 (wF 3 g)) (F0 m 7 ls []) := by
    intro k
    induction k with
    | zero =>
      intro i x2 kb2 al2 L2 lf2 tn2 fd2 H locs ls hL hi hres hln2 hlf2 hP hS hl
      refine lv_iload hx hb dX3_peelFrom_7 (lv_at hl 0 rfl) ?_
      refine lv_bipush (v := 24) hx hb dX3_peelFrom_9 (by decide) ?_
      refine lv_icmp_gt (tgt := 75) hx hb dX3_peelFrom_11 (by decide) (fun c_1 => ?_) (fun c_1 => ?_)
      · exact absurd ((nI_ltI (a := 24) (b := i) (by omega) (by omega)).mp c_1) (by omega)
      · refine lv_iload_n hx hb dX3_peelFrom_14 rfl (lv_at hl 1 rfl) ?_
        refine va_calli (va_runSN (As := [.int x2]) (rest := []) ⟨hx, hb, hml, hown, hts⟩ (c_X5_blocksOf l x2) ⟨va_cnB 1 hts gX3_peelFrom_X5_blocksOf_n64 rfl rfl rfl (hK.2 _ nm_X3_64) (hts (.initialized RX5) (List.mem_of_getElem? (i := 3) rfl)) (by decide +kernel) ⟨Nat.le_of_ble_eq_true rfl, Nat.le_of_ble_eq_true rfl⟩, (hts (.static yX5_blocksOf) (List.mem_of_getElem? (i := 2) rfl)), trivial⟩ ⟨wU_blind, fun U hU hW => ⟨rfl, trivial⟩⟩ rfl rfl hl.1 rfl (lv_room (Nat.le_of_ble_eq_true rfl)) dX3_peelFrom_15 ⟨Nat.zero_le _, Nat.zero_le _⟩) hS (fun q _ h => h.elim) (fun q h => h.elim) (fun r_2 uu t H_2 locs_2 ht hvm hw hB hz1 hk1 hS => ?_)
        have hP := hP.same hk1
        obtain rfl : r_2 = (x2 &&& 4095) := hw
        refine lv_if_ne (tgt := 34) hx hb dX3_peelFrom_18 (by decide) (fun c_3 => ?_) (fun c_3 => ?_)
        · refine lv_aload_n hx hb dX3_peelFrom_34 rfl (lv_at hl 3 rfl) ?_
          refine lv_iload_n hx hb dX3_peelFrom_35 rfl (lv_at hl 1 rfl) ?_
          refine va_callv (va_runV (As := [.int x2]) (rest := []) ⟨hx, hb, hml, hown, hts⟩ (c_X3_learn l E g li kb2 al2 L2 go tn2 lo x2) (cwV 1 hts gX3_peelFrom_X3_learn rfl rfl rfl (by decide +kernel) ⟨Nat.le_of_ble_eq_true rfl, Nat.le_of_ble_eq_true rfl⟩) ⟨wS.blind, (w_recv hK hP 0 (by decide) rfl (ci := 3) rfl), fun U hU hW => wS.go ⟨hln2, _, hlf2, hP⟩ hK hI hU hW⟩ rfl rfl hl.1 rfl (lv_room (Nat.le_of_ble_eq_true rfl)) dX3_peelFrom_36 ⟨Nat.zero_le _, Nat.zero_le _⟩) hS (fun q _ h => h) (fun q h => h) (fun uu t H_4 locs_4 ht hvm hw hB hz1 hk1 hS => ?_)
          rw [ht] at hB
          obtain ⟨hln_4, lf_4, hlf_4, hP⟩ := hB
          refine lv_iinc (v := (fd2 + 1)) (lv' := [(2, .int ((fd2 + 1))), (4, .int (nI i)), (3, .int x2), (0, .ref ((g 0))), (1, .int x)]) hx hb dX3_peelFrom_39 hl (k := 2) rfl rfl (by decide) rfl (fun ls hl => ?_)
          refine lv_aload_n hx hb dX3_peelFrom_42 rfl (lv_at hl 3 rfl) ?_
          refine va_calli (va_runV (As := []) (rest := []) ⟨hx, hb, hml, hown, hts⟩ (c_X3_firstShort l E g li (kb2 ||| (x2 &&& 4095)) (lrnA x2 al2) (L2.map (lrn x2)) go tn2 lo ) (cwV 0 hts gX3_peelFrom_X3_firstShort rfl rfl rfl (by decide +kernel) ⟨Nat.le_of_ble_eq_true rfl, Nat.le_of_ble_eq_true rfl⟩) ⟨wS.blind, (w_recv hK hP 0 (by decide) rfl (ci := 3) rfl), fun U hU hW => wS.go ⟨hln_4, _, hlf_4, hP⟩ hK hI hU hW⟩ rfl rfl hl.1 rfl (lv_room (Nat.le_of_ble_eq_true rfl)) dX3_peelFrom_43 ⟨Nat.zero_le _, Nat.zero_le _⟩) hS (fun q _ h => h.elim) (fun q h => h.elim) (fun r_5 uu t H_5 locs_5 ht hvm hw hB hz1 hk1 hS => ?_)
          have hP := hP.same hk1
          obtain rfl : r_5 = (fsI (L2.map (lrn x2))) := hw
          cases hfs : fshort (L2.map (lrn x2)) with
          | none =>
            rw [fsI_n hfs]
            have hq := hres.symm.trans (peelS_none (q2 := ((kb2 ||| (x2 &&& 4095)), (lrnA x2 al2), (L2.map (lrn x2)), tn2, (fd2 + 1))) (eatS_n c_3 (kb2, al2, L2, tn2, fd2)) hfs)
            refine lv_istore (lv' := [(5, .int ((-1))), (2, .int ((fd2 + 1))), (4, .int (nI i)), (3, .int x2), (0, .ref ((g 0))), (1, .int x)]) hx hb dX3_peelFrom_46 hl (by decide) rfl (fun ls hl => ?_)
            refine lv_iload hx hb dX3_peelFrom_48 (lv_at hl 0 rfl) ?_
            refine lv_iconst (v := (-1)) hx hb dX3_peelFrom_50 (by decide) ?_
            refine lv_icmp_ne (tgt := 56) hx hb dX3_peelFrom_51 (by decide) (fun c_6 => ?_) (fun c_6 => ?_)
            · exact absurd rfl c_6
            · refine lv_iload_n hx hb dX3_peelFrom_54 rfl (lv_at hl 1 rfl) ?_
              exact W.iret (v := (fd2 + 1)) hx hb hr (fun t ht hW => ⟨⟨_, (), rfl, (by show _ = _; rw [hq]), (by show rcP _ _ _ _ _ _ _ _ _ _; rw [ht, hq]; exact ⟨hln_4, _, hlf_4, hP⟩)⟩, hS.F ht⟩) hS.2.2 dX3_peelFrom_55
          | some u0 =>
            have hp := fshort_lt hfs
            rw [List.length_map, hL] at hp
            exact absurd hp (Nat.not_lt_zero u0)
        · refine lv_aload_n hx hb dX3_peelFrom_21 rfl (lv_at hl 3 rfl) ?_
          refine lv_dup hx hb dX3_peelFrom_22 rfl ?_
          refine w_get (C := RX3) (T := TX3) (N := 8) (ci := 3) (v := .int tn2) hx hb hts hin3 hown hK hP 0 (by decide) rfl rfl 6 (by decide) (hts (.fieldLink RX3 36 "MixedBlocks$Receiver" "toldNothing" "I") (List.mem_of_getElem? (i := 1) rfl)) (fun _ h9 => h9) rfl dX3_peelFrom_23 ?_
          refine lv_iconst (v := 1) hx hb dX3_peelFrom_26 (by decide) ?_
          refine lv_iadd hx hb dX3_peelFrom_27 ?_
          refine w_put (C := RX3) (T := TX3) (N := 8) (ci := 3) (v := .int ((tn2 + 1))) (ty := .int) hx hb hts hin3 tyX3 tyX3_ok nmX3 hown hK hP hI hA hS 0 (by decide) rfl rfl 6 (by decide) (hts (.fieldLink RX3 36 "MixedBlocks$Receiver" "toldNothing" "I") (List.mem_of_getElem? (i := 1) rfl)) (fun _ h9 => h9) rfl (by decide +kernel) rfl rfl (Nat.le_of_ble_eq_true rfl) dX3_peelFrom_28 (rcF E g li kb2 al2 lf2 L2.length go (tn2 + 1) lo) rfl rc_ne0 (fun H_7 locs_7 hP hS => ?_)
          refine lv_goto (tgt := 42) hx hb dX3_peelFrom_31 (by decide) ?_
          refine lv_aload_n hx hb dX3_peelFrom_42 rfl (lv_at hl 3 rfl) ?_
          refine va_calli (va_runV (As := []) (rest := []) ⟨hx, hb, hml, hown, hts⟩ (c_X3_firstShort l E g li kb2 al2 L2 go (tn2 + 1) lo ) (cwV 0 hts gX3_peelFrom_X3_firstShort rfl rfl rfl (by decide +kernel) ⟨Nat.le_of_ble_eq_true rfl, Nat.le_of_ble_eq_true rfl⟩) ⟨wS.blind, (w_recv hK hP 0 (by decide) rfl (ci := 3) rfl), fun U hU hW => wS.go ⟨hln2, _, hlf2, hP⟩ hK hI hU hW⟩ rfl rfl hl.1 rfl (lv_room (Nat.le_of_ble_eq_true rfl)) dX3_peelFrom_43 ⟨Nat.zero_le _, Nat.zero_le _⟩) hS (fun q _ h => h.elim) (fun q h => h.elim) (fun r_8 uu t H_8 locs_8 ht hvm hw hB hz1 hk1 hS => ?_)
          have hP := hP.same hk1
          obtain rfl : r_8 = (fsI L2) := hw
          cases hfs : fshort L2 with
          | none =>
            rw [fsI_n hfs]
            have hq := hres.symm.trans (peelS_none (q2 := (kb2, al2, L2, (tn2 + 1), fd2)) (eatS_z c_3 (kb2, al2, L2, tn2, fd2)) hfs)
            refine lv_istore (lv' := [(5, .int ((-1))), (4, .int (nI i)), (3, .int x2), (2, .int fd2), (0, .ref ((g 0))), (1, .int x)]) hx hb dX3_peelFrom_46 hl (by decide) rfl (fun ls hl => ?_)
            refine lv_iload hx hb dX3_peelFrom_48 (lv_at hl 0 rfl) ?_
            refine lv_iconst (v := (-1)) hx hb dX3_peelFrom_50 (by decide) ?_
            refine lv_icmp_ne (tgt := 56) hx hb dX3_peelFrom_51 (by decide) (fun c_9 => ?_) (fun c_9 => ?_)
            · exact absurd rfl c_9
            · refine lv_iload_n hx hb dX3_peelFrom_54 rfl (lv_at hl 3 rfl) ?_
              exact W.iret (v := fd2) hx hb hr (fun t ht hW => ⟨⟨_, (), rfl, (by show _ = _; rw [hq]), (by show rcP _ _ _ _ _ _ _ _ _ _; rw [ht, hq]; exact ⟨hln2, _, hlf2, hP⟩)⟩, hS.F ht⟩) hS.2.2 dX3_peelFrom_55
          | some u0 =>
            have hp := fshort_lt hfs
            rw [hL] at hp
            exact absurd hp (Nat.not_lt_zero u0)
    | succ k ih =>
      intro i x2 kb2 al2 L2 lf2 tn2 fd2 H locs ls hL hi hres hln2 hlf2 hP hS hl
      refine lv_iload hx hb dX3_peelFrom_7 (lv_at hl 0 rfl) ?_
      refine lv_bipush (v := 24) hx hb dX3_peelFrom_9 (by decide) ?_
      refine lv_icmp_gt (tgt := 75) hx hb dX3_peelFrom_11 (by decide) (fun c_10 => ?_) (fun c_10 => ?_)
      · exact absurd ((nI_ltI (a := 24) (b := i) (by omega) (by omega)).mp c_10) (by omega)
      · refine lv_iload_n hx hb dX3_peelFrom_14 rfl (lv_at hl 1 rfl) ?_
        refine va_calli (va_runSN (As := [.int x2]) (rest := []) ⟨hx, hb, hml, hown, hts⟩ (c_X5_blocksOf l x2) ⟨va_cnB 1 hts gX3_peelFrom_X5_blocksOf_n64 rfl rfl rfl (hK.2 _ nm_X3_64) (hts (.initialized RX5) (List.mem_of_getElem? (i := 3) rfl)) (by decide +kernel) ⟨Nat.le_of_ble_eq_true rfl, Nat.le_of_ble_eq_true rfl⟩, (hts (.static yX5_blocksOf) (List.mem_of_getElem? (i := 2) rfl)), trivial⟩ ⟨wU_blind, fun U hU hW => ⟨rfl, trivial⟩⟩ rfl rfl hl.1 rfl (lv_room (Nat.le_of_ble_eq_true rfl)) dX3_peelFrom_15 ⟨Nat.zero_le _, Nat.zero_le _⟩) hS (fun q _ h => h.elim) (fun q h => h.elim) (fun r_11 uu t H_11 locs_11 ht hvm hw hB hz1 hk1 hS => ?_)
        have hP := hP.same hk1
        obtain rfl : r_11 = (x2 &&& 4095) := hw
        refine lv_if_ne (tgt := 34) hx hb dX3_peelFrom_18 (by decide) (fun c_12 => ?_) (fun c_12 => ?_)
        · refine lv_aload_n hx hb dX3_peelFrom_34 rfl (lv_at hl 3 rfl) ?_
          refine lv_iload_n hx hb dX3_peelFrom_35 rfl (lv_at hl 1 rfl) ?_
          refine va_callv (va_runV (As := [.int x2]) (rest := []) ⟨hx, hb, hml, hown, hts⟩ (c_X3_learn l E g li kb2 al2 L2 go tn2 lo x2) (cwV 1 hts gX3_peelFrom_X3_learn rfl rfl rfl (by decide +kernel) ⟨Nat.le_of_ble_eq_true rfl, Nat.le_of_ble_eq_true rfl⟩) ⟨wS.blind, (w_recv hK hP 0 (by decide) rfl (ci := 3) rfl), fun U hU hW => wS.go ⟨hln2, _, hlf2, hP⟩ hK hI hU hW⟩ rfl rfl hl.1 rfl (lv_room (Nat.le_of_ble_eq_true rfl)) dX3_peelFrom_36 ⟨Nat.zero_le _, Nat.zero_le _⟩) hS (fun q _ h => h) (fun q h => h) (fun uu t H_13 locs_13 ht hvm hw hB hz1 hk1 hS => ?_)
          rw [ht] at hB
          obtain ⟨hln_13, lf_13, hlf_13, hP⟩ := hB
          refine lv_iinc (v := (fd2 + 1)) (lv' := [(2, .int ((fd2 + 1))), (4, .int (nI i)), (3, .int x2), (0, .ref ((g 0))), (1, .int x)]) hx hb dX3_peelFrom_39 hl (k := 2) rfl rfl (by decide) rfl (fun ls hl => ?_)
          refine lv_aload_n hx hb dX3_peelFrom_42 rfl (lv_at hl 3 rfl) ?_
          refine va_calli (va_runV (As := []) (rest := []) ⟨hx, hb, hml, hown, hts⟩ (c_X3_firstShort l E g li (kb2 ||| (x2 &&& 4095)) (lrnA x2 al2) (L2.map (lrn x2)) go tn2 lo ) (cwV 0 hts gX3_peelFrom_X3_firstShort rfl rfl rfl (by decide +kernel) ⟨Nat.le_of_ble_eq_true rfl, Nat.le_of_ble_eq_true rfl⟩) ⟨wS.blind, (w_recv hK hP 0 (by decide) rfl (ci := 3) rfl), fun U hU hW => wS.go ⟨hln_13, _, hlf_13, hP⟩ hK hI hU hW⟩ rfl rfl hl.1 rfl (lv_room (Nat.le_of_ble_eq_true rfl)) dX3_peelFrom_43 ⟨Nat.zero_le _, Nat.zero_le _⟩) hS (fun q _ h => h.elim) (fun q h => h.elim) (fun r_14 uu t H_14 locs_14 ht hvm hw hB hz1 hk1 hS => ?_)
          have hP := hP.same hk1
          obtain rfl : r_14 = (fsI (L2.map (lrn x2))) := hw
          cases hfs : fshort (L2.map (lrn x2)) with
          | none =>
            rw [fsI_n hfs]
            have hq := hres.symm.trans (peelS_none (q2 := ((kb2 ||| (x2 &&& 4095)), (lrnA x2 al2), (L2.map (lrn x2)), tn2, (fd2 + 1))) (eatS_n c_12 (kb2, al2, L2, tn2, fd2)) hfs)
            refine lv_istore (lv' := [(5, .int ((-1))), (2, .int ((fd2 + 1))), (4, .int (nI i)), (3, .int x2), (0, .ref ((g 0))), (1, .int x)]) hx hb dX3_peelFrom_46 hl (by decide) rfl (fun ls hl => ?_)
            refine lv_iload hx hb dX3_peelFrom_48 (lv_at hl 0 rfl) ?_
            refine lv_iconst (v := (-1)) hx hb dX3_peelFrom_50 (by decide) ?_
            refine lv_icmp_ne (tgt := 56) hx hb dX3_peelFrom_51 (by decide) (fun c_15 => ?_) (fun c_15 => ?_)
            · exact absurd rfl c_15
            · refine lv_iload_n hx hb dX3_peelFrom_54 rfl (lv_at hl 1 rfl) ?_
              exact W.iret (v := (fd2 + 1)) hx hb hr (fun t ht hW => ⟨⟨_, (), rfl, (by show _ = _; rw [hq]), (by show rcP _ _ _ _ _ _ _ _ _ _; rw [ht, hq]; exact ⟨hln_13, _, hlf_13, hP⟩)⟩, hS.F ht⟩) hS.2.2 dX3_peelFrom_55
          | some u0 =>
            have hp := fshort_lt hfs
            rw [fsI_s hfs]
            refine lv_istore (lv' := [(5, .int (nI u0)), (2, .int ((fd2 + 1))), (4, .int (nI i)), (3, .int x2), (0, .ref ((g 0))), (1, .int x)]) hx hb dX3_peelFrom_46 hl (by decide) rfl (fun ls hl => ?_)
            refine lv_iload hx hb dX3_peelFrom_48 (lv_at hl 0 rfl) ?_
            refine lv_iconst (v := (-1)) hx hb dX3_peelFrom_50 (by decide) ?_
            refine lv_icmp_ne (tgt := 56) hx hb dX3_peelFrom_51 (by decide) (fun c_16 => ?_) (fun c_16 => ?_)
            · refine lv_aload_n hx hb dX3_peelFrom_56 rfl (lv_at hl 4 rfl) ?_
              refine lv_iload hx hb dX3_peelFrom_57 (lv_at hl 0 rfl) ?_
              refine va_calli (va_runV (As := [.int (nI u0)]) (rest := []) ⟨hx, hb, hml, hown, hts⟩ (c_X3_waitingAt l E g li (kb2 ||| (x2 &&& 4095)) (lrnA x2 al2) (L2.map (lrn x2)) go tn2 lo u0 hp) (cwV 1 hts gX3_peelFrom_X3_waitingAt rfl rfl rfl (by decide +kernel) ⟨Nat.le_of_ble_eq_true rfl, Nat.le_of_ble_eq_true rfl⟩) ⟨wS.blind, (w_recv hK hP 0 (by decide) rfl (ci := 3) rfl), fun U hU hW => wS.go ⟨hln_13, _, hlf_13, hP⟩ hK hI hU hW⟩ rfl rfl hl.1 rfl (lv_room (Nat.le_of_ble_eq_true rfl)) dX3_peelFrom_59 ⟨Nat.zero_le _, Nat.zero_le _⟩) hS (fun q _ h => h.elim) (fun q h => h.elim) (fun r_17 uu t H_17 locs_17 ht hvm hw hB hz1 hk1 hS => ?_)
              have hP := hP.same hk1
              obtain rfl : r_17 = ((L2.map (lrn x2)).getD u0 0) := hw
              refine lv_istore_n (lv' := [(3, .int (((L2.map (lrn x2)).getD u0 0))), (5, .int (nI u0)), (2, .int ((fd2 + 1))), (4, .int (nI i)), (0, .ref ((g 0))), (1, .int x)]) hx hb dX3_peelFrom_62 rfl hl (by decide) rfl (fun ls hl => ?_)
              refine lv_aload_n hx hb dX3_peelFrom_63 rfl (lv_at hl 4 rfl) ?_
              refine lv_iload hx hb dX3_peelFrom_64 (lv_at hl 1 rfl) ?_
              refine va_callv (va_runV (As := [.int (nI u0)]) (rest := []) ⟨hx, hb, hml, hown, hts⟩ (c_X3_drop l E g li (kb2 ||| (x2 &&& 4095)) (lrnA x2 al2) (L2.map (lrn x2)) go tn2 lo u0 hp) (cwV 1 hts gX3_peelFrom_X3_drop rfl rfl rfl (by decide +kernel) ⟨Nat.le_of_ble_eq_true rfl, Nat.le_of_ble_eq_true rfl⟩) ⟨wS.blind, (w_recv hK hP 0 (by decide) rfl (ci := 3) rfl), fun U hU hW => wS.go ⟨hln_13, _, hlf_13, hP⟩ hK hI hU hW⟩ rfl rfl hl.1 rfl (lv_room (Nat.le_of_ble_eq_true rfl)) dX3_peelFrom_66 ⟨Nat.zero_le _, Nat.zero_le _⟩) hS (fun q _ h => h) (fun q h => h) (fun uu t H_18 locs_18 ht hvm hw hB hz1 hk1 hS => ?_)
              rw [ht] at hB
              obtain ⟨hln_18, lf_18, hlf_18, hP⟩ := hB
              refine lv_iinc (v := (nI (i + 1))) (lv' := [(4, .int (nI (i + 1))), (3, .int (((L2.map (lrn x2)).getD u0 0))), (5, .int (nI u0)), (2, .int ((fd2 + 1))), (0, .ref ((g 0))), (1, .int x)]) hx hb dX3_peelFrom_69 hl (k := 3) rfl (nI_1 _) (by decide) rfl (fun ls hl => ?_)
              refine lv_goto (tgt := 7) hx hb dX3_peelFrom_72 (by decide) ?_
              have hpl := peelS_some (n := k) (q2 := ((kb2 ||| (x2 &&& 4095)), (lrnA x2 al2), (L2.map (lrn x2)), tn2, (fd2 + 1))) (eatS_n c_12 (kb2, al2, L2, tn2, fd2)) hfs
              exact ih (i + 1) ((L2.map (lrn x2)).getD u0 0) (kb2 ||| (x2 &&& 4095)) (lrnA x2 al2) ((L2.map (lrn x2)).eraseIdx u0) lf_18 tn2 (fd2 + 1) _ _ ls (by rw [er_len hp, List.length_map, hL]; rfl) (by omega) (hpl.symm.trans hres) hln_18 hlf_18 hP hS (lv_sub hl [0, 1, 3, 4, 5] rfl)
            · exact absurd c_16 (nI_ne_m1 (by omega))
        · refine lv_aload_n hx hb dX3_peelFrom_21 rfl (lv_at hl 3 rfl) ?_
          refine lv_dup hx hb dX3_peelFrom_22 rfl ?_
          refine w_get (C := RX3) (T := TX3) (N := 8) (ci := 3) (v := .int tn2) hx hb hts hin3 hown hK hP 0 (by decide) rfl rfl 6 (by decide) (hts (.fieldLink RX3 36 "MixedBlocks$Receiver" "toldNothing" "I") (List.mem_of_getElem? (i := 1) rfl)) (fun _ h9 => h9) rfl dX3_peelFrom_23 ?_
          refine lv_iconst (v := 1) hx hb dX3_peelFrom_26 (by decide) ?_
          refine lv_iadd hx hb dX3_peelFrom_27 ?_
          refine w_put (C := RX3) (T := TX3) (N := 8) (ci := 3) (v := .int ((tn2 + 1))) (ty := .int) hx hb hts hin3 tyX3 tyX3_ok nmX3 hown hK hP hI hA hS 0 (by decide) rfl rfl 6 (by decide) (hts (.fieldLink RX3 36 "MixedBlocks$Receiver" "toldNothing" "I") (List.mem_of_getElem? (i := 1) rfl)) (fun _ h9 => h9) rfl (by decide +kernel) rfl rfl (Nat.le_of_ble_eq_true rfl) dX3_peelFrom_28 (rcF E g li kb2 al2 lf2 L2.length go (tn2 + 1) lo) rfl rc_ne0 (fun H_19 locs_19 hP hS => ?_)
          refine lv_goto (tgt := 42) hx hb dX3_peelFrom_31 (by decide) ?_
          refine lv_aload_n hx hb dX3_peelFrom_42 rfl (lv_at hl 3 rfl) ?_
          refine va_calli (va_runV (As := []) (rest := []) ⟨hx, hb, hml, hown, hts⟩ (c_X3_firstShort l E g li kb2 al2 L2 go (tn2 + 1) lo ) (cwV 0 hts gX3_peelFrom_X3_firstShort rfl rfl rfl (by decide +kernel) ⟨Nat.le_of_ble_eq_true rfl, Nat.le_of_ble_eq_true rfl⟩) ⟨wS.blind, (w_recv hK hP 0 (by decide) rfl (ci := 3) rfl), fun U hU hW => wS.go ⟨hln2, _, hlf2, hP⟩ hK hI hU hW⟩ rfl rfl hl.1 rfl (lv_room (Nat.le_of_ble_eq_true rfl)) dX3_peelFrom_43 ⟨Nat.zero_le _, Nat.zero_le _⟩) hS (fun q _ h => h.elim) (fun q h => h.elim) (fun r_20 uu t H_20 locs_20 ht hvm hw hB hz1 hk1 hS => ?_)
          have hP := hP.same hk1
          obtain rfl : r_20 = (fsI L2) := hw
          cases hfs : fshort L2 with
          | none =>
            rw [fsI_n hfs]
            have hq := hres.symm.trans (peelS_none (q2 := (kb2, al2, L2, (tn2 + 1), fd2)) (eatS_z c_12 (kb2, al2, L2, tn2, fd2)) hfs)
            refine lv_istore (lv' := [(5, .int ((-1))), (4, .int (nI i)), (3, .int x2), (2, .int fd2), (0, .ref ((g 0))), (1, .int x)]) hx hb dX3_peelFrom_46 hl (by decide) rfl (fun ls hl => ?_)
            refine lv_iload hx hb dX3_peelFrom_48 (lv_at hl 0 rfl) ?_
            refine lv_iconst (v := (-1)) hx hb dX3_peelFrom_50 (by decide) ?_
            refine lv_icmp_ne (tgt := 56) hx hb dX3_peelFrom_51 (by decide) (fun c_21 => ?_) (fun c_21 => ?_)
            · exact absurd rfl c_21
            · refine lv_iload_n hx hb dX3_peelFrom_54 rfl (lv_at hl 3 rfl) ?_
              exact W.iret (v := fd2) hx hb hr (fun t ht hW => ⟨⟨_, (), rfl, (by show _ = _; rw [hq]), (by show rcP _ _ _ _ _ _ _ _ _ _; rw [ht, hq]; exact ⟨hln2, _, hlf2, hP⟩)⟩, hS.F ht⟩) hS.2.2 dX3_peelFrom_55
          | some u0 =>
            have hp := fshort_lt hfs
            rw [fsI_s hfs]
            refine lv_istore (lv' := [(5, .int (nI u0)), (4, .int (nI i)), (3, .int x2), (2, .int fd2), (0, .ref ((g 0))), (1, .int x)]) hx hb dX3_peelFrom_46 hl (by decide) rfl (fun ls hl => ?_)
            refine lv_iload hx hb dX3_peelFrom_48 (lv_at hl 0 rfl) ?_
            refine lv_iconst (v := (-1)) hx hb dX3_peelFrom_50 (by decide) ?_
            refine lv_icmp_ne (tgt := 56) hx hb dX3_peelFrom_51 (by decide) (fun c_22 => ?_) (fun c_22 => ?_)
            · refine lv_aload_n hx hb dX3_peelFrom_56 rfl (lv_at hl 4 rfl) ?_
              refine lv_iload hx hb dX3_peelFrom_57 (lv_at hl 0 rfl) ?_
              refine va_calli (va_runV (As := [.int (nI u0)]) (rest := []) ⟨hx, hb, hml, hown, hts⟩ (c_X3_waitingAt l E g li kb2 al2 L2 go (tn2 + 1) lo u0 hp) (cwV 1 hts gX3_peelFrom_X3_waitingAt rfl rfl rfl (by decide +kernel) ⟨Nat.le_of_ble_eq_true rfl, Nat.le_of_ble_eq_true rfl⟩) ⟨wS.blind, (w_recv hK hP 0 (by decide) rfl (ci := 3) rfl), fun U hU hW => wS.go ⟨hln2, _, hlf2, hP⟩ hK hI hU hW⟩ rfl rfl hl.1 rfl (lv_room (Nat.le_of_ble_eq_true rfl)) dX3_peelFrom_59 ⟨Nat.zero_le _, Nat.zero_le _⟩) hS (fun q _ h => h.elim) (fun q h => h.elim) (fun r_23 uu t H_23 locs_23 ht hvm hw hB hz1 hk1 hS => ?_)
              have hP := hP.same hk1
              obtain rfl : r_23 = (L2.getD u0 0) := hw
              refine lv_istore_n (lv' := [(3, .int ((L2.getD u0 0))), (5, .int (nI u0)), (4, .int (nI i)), (2, .int fd2), (0, .ref ((g 0))), (1, .int x)]) hx hb dX3_peelFrom_62 rfl hl (by decide) rfl (fun ls hl => ?_)
              refine lv_aload_n hx hb dX3_peelFrom_63 rfl (lv_at hl 4 rfl) ?_
              refine lv_iload hx hb dX3_peelFrom_64 (lv_at hl 1 rfl) ?_
              refine va_callv (va_runV (As := [.int (nI u0)]) (rest := []) ⟨hx, hb, hml, hown, hts⟩ (c_X3_drop l E g li kb2 al2 L2 go (tn2 + 1) lo u0 hp) (cwV 1 hts gX3_peelFrom_X3_drop rfl rfl rfl (by decide +kernel) ⟨Nat.le_of_ble_eq_true rfl, Nat.le_of_ble_eq_true rfl⟩) ⟨wS.blind, (w_recv hK hP 0 (by decide) rfl (ci := 3) rfl), fun U hU hW => wS.go ⟨hln2, _, hlf2, hP⟩ hK hI hU hW⟩ rfl rfl hl.1 rfl (lv_room (Nat.le_of_ble_eq_true rfl)) dX3_peelFrom_66 ⟨Nat.zero_le _, Nat.zero_le _⟩) hS (fun q _ h => h) (fun q h => h) (fun uu t H_24 locs_24 ht hvm hw hB hz1 hk1 hS => ?_)
              rw [ht] at hB
              obtain ⟨hln_24, lf_24, hlf_24, hP⟩ := hB
              refine lv_iinc (v := (nI (i + 1))) (lv' := [(4, .int (nI (i + 1))), (3, .int ((L2.getD u0 0))), (5, .int (nI u0)), (2, .int fd2), (0, .ref ((g 0))), (1, .int x)]) hx hb dX3_peelFrom_69 hl (k := 2) rfl (nI_1 _) (by decide) rfl (fun ls hl => ?_)
              refine lv_goto (tgt := 7) hx hb dX3_peelFrom_72 (by decide) ?_
              have hpl := peelS_some (n := k) (q2 := (kb2, al2, L2, (tn2 + 1), fd2)) (eatS_z c_12 (kb2, al2, L2, tn2, fd2)) hfs
              exact ih (i + 1) (L2.getD u0 0) kb2 al2 (L2.eraseIdx u0) lf_24 (tn2 + 1) fd2 _ _ ls (by rw [er_len hp, hL]; rfl) (by omega) (hpl.symm.trans hres) hln_24 hlf_24 hP hS (lv_sub hl [0, 1, 3, 4, 5] rfl)
            · exact absurd c_22 (nI_ne_m1 (by omega))
  exact L7 L.length 0 x kb al L lf tn 0 _ _ ls rfl (by omega) rfl hln hlf hP hS (lv_sub hl [0, 1, 2, 3, 4] rfl)
