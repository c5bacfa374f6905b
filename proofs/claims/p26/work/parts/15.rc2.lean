set_option maxHeartbeats 4000000 in
set_option maxRecDepth 100000 in
theorem c_X3_firstShort (l : Launch) (E : wE) (g : Nat → Nat) (li : Bool) (kb : Int32) (al : Nat → Int32) (L : List Int32) (go tn lo : Int32) : Met l yX3_firstShort wsX3_firstShort ({ frames := 2, cells := 0, slots := 0, locals := 40 }) (va_Pc [.ref ((g 0))] (wS E 3 g (rcP E g li kb al L go tn lo))) (va_Qi (fun (r : Int32) (_ : Unit) => r = fsI L) (fun _ t => True) wN) 0 0 wN := by
  refine Met.ofW (cc := cX3_firstShort) (maxL := 2) (ret := (some .int)) (by decide) rfl ?_
  intro p e s m args below meth c s₁ B hml hv
  obtain ⟨rfl, ⟨hln, lf, hlf, hP⟩, hK, hI⟩ := hv
  have hx := B.exec
  have hb := B.bytes
  have hr := B.returns
  have hts := atoms_spec (ws := wsX3_firstShort) B.pre
  have hown : s.vm.findClass RX3 = some m.cls := findClass_of_methodNamed B.named
  have hlocks := B.notSynchronized
  have hS : va_S wN s.heap s.heap [] := va_S.rf
  have hin3 : ∀ w ∈ wsX30, w ∈ wsX3_firstShort := by decide +kernel
  have hl := lv_entry ([.ref ((g 0))]) (n := 2) (Nat.le_of_ble_eq_true rfl)
  rw [lg_entry_eq]
  generalize (lg_sl ([.ref ((g 0))]) ++ List.replicate (2 - (lg_sl ([.ref ((g 0))])).length) Slot.unset).toArray = ls at hl ⊢
  have hl : lv_has ls 2 [(0, .ref ((g 0)))] := hl
  refine lv_iconst (v := 0) hx hb dX3_firstShort_0 (by decide) ?_
  refine lv_istore_n (lv' := [(1, .int 0), (0, .ref ((g 0)))]) hx hb dX3_firstShort_1 rfl hl (by decide) rfl (fun ls hl => ?_)
  have L2 : ∀ (k : Nat) (i : Nat) (H : Heap) (locs : List Loc) (ls : Array Slot), i + k = L.length → (∀ j, j < i → isShort (L.getD j 0) = false) → wP E 3 g (rcF E g li kb al lf L.length go tn lo) H → va_S wN s.heap H locs → lv_has ls 2 [(1, .int (nI i)), (0, .ref ((g 0)))] → W p l e (headSpec wsX3_firstShort ({ frames := 2, cells := 0, slots := 0, locals := 40 })).room s m ([.ref ((g 0))] : List Value).toArray below meth c H locs 0 0 (MQ below (va_Qi (fun (r : Int32) (_ : Unit) => r = fsI L) (fun _ t => True) wN) ([.ref ((g 0))] : List Value).toArray s 0 0 wN) (F0 m 2 ls []) := by
    intro k
    induction k with
    | zero =>
      intro i H locs ls hi hno hP hS hl
      refine lv_iload_n hx hb dX3_firstShort_2 rfl (lv_at hl 0 rfl) ?_
      refine lv_aload_n hx hb dX3_firstShort_3 rfl (lv_at hl 1 rfl) ?_
      refine w_get (C := RX3) (T := TX3) (N := 8) (ci := 3) (v := .int (nI L.length)) hx hb hts hin3 hown hK hP 0 (by decide) rfl rfl 4 (by decide) (hts (.fieldLink RX3 30 "MixedBlocks$Receiver" "waits" "I") (List.mem_of_getElem? (i := 1) rfl)) (fun _ h9 => h9) rfl dX3_firstShort_4 ?_
      refine lv_icmp_ge (tgt := 40) hx hb dX3_firstShort_7 (by decide) (fun c_1 => ?_) (fun c_1 => ?_)
      · have n_1 : L.length ≤ i := (nI_leI (a := L.length) (b := i) (by omega) (by omega)).mp c_1
        refine lv_iconst (v := (-1)) hx hb dX3_firstShort_40 (by decide) ?_
        exact W.iret (v := (-1)) hx hb hr (fun t ht hW => ⟨⟨_, (), rfl, (fsI_n (fshort_none (fun j hj => hno j (by omega)))).symm, trivial⟩, hS.F ht⟩) hS.2.2 dX3_firstShort_41
      · have n_1 : ¬ L.length ≤ i := fun z => c_1 ((nI_leI (a := L.length) (b := i) (by omega) (by omega)).mpr z)
        exfalso
        omega
    | succ k ih =>
      intro i H locs ls hi hno hP hS hl
      refine lv_iload_n hx hb dX3_firstShort_2 rfl (lv_at hl 0 rfl) ?_
      refine lv_aload_n hx hb dX3_firstShort_3 rfl (lv_at hl 1 rfl) ?_
      refine w_get (C := RX3) (T := TX3) (N := 8) (ci := 3) (v := .int (nI L.length)) hx hb hts hin3 hown hK hP 0 (by decide) rfl rfl 4 (by decide) (hts (.fieldLink RX3 30 "MixedBlocks$Receiver" "waits" "I") (List.mem_of_getElem? (i := 1) rfl)) (fun _ h9 => h9) rfl dX3_firstShort_4 ?_
      refine lv_icmp_ge (tgt := 40) hx hb dX3_firstShort_7 (by decide) (fun c_2 => ?_) (fun c_2 => ?_)
      · have n_2 : L.length ≤ i := (nI_leI (a := L.length) (b := i) (by omega) (by omega)).mp c_2
        exfalso
        omega
      · have n_2 : ¬ L.length ≤ i := fun z => c_2 ((nI_leI (a := L.length) (b := i) (by omega) (by omega)).mpr z)
        refine lv_iload_n hx hb dX3_firstShort_10 rfl (lv_at hl 0 rfl) ?_
        refine lv_aload_n hx hb dX3_firstShort_11 rfl (lv_at hl 1 rfl) ?_
        refine w_get (C := RX3) (T := TX3) (N := 8) (ci := 3) (v := .ref ((g 2))) hx hb hts hin3 hown hK hP 0 (by decide) rfl rfl 3 (by decide) (hts (.fieldLink RX3 15 "MixedBlocks$Receiver" "left" "[I") (List.mem_of_getElem? (i := 2) rfl)) (fun _ h9 => h9) rfl dX3_firstShort_12 ?_
        refine w_alen (v := 24) hx hb hK hP 2 (by decide) rfl rfl dX3_firstShort_15 ?_
        refine lv_icmp_ge (tgt := 40) hx hb dX3_firstShort_16 (by decide) (fun c_3 => ?_) (fun c_3 => ?_)
        · have n_3 : 24 ≤ i := (nI_leI (a := 24) (b := i) (by omega) (by omega)).mp c_3
          exfalso
          omega
        · have n_3 : ¬ 24 ≤ i := fun z => c_3 ((nI_leI (a := 24) (b := i) (by omega) (by omega)).mpr z)
          refine lv_aload_n hx hb dX3_firstShort_19 rfl (lv_at hl 1 rfl) ?_
          refine w_get (C := RX3) (T := TX3) (N := 8) (ci := 3) (v := .ref ((g 2))) hx hb hts hin3 hown hK hP 0 (by decide) rfl rfl 3 (by decide) (hts (.fieldLink RX3 15 "MixedBlocks$Receiver" "left" "[I") (List.mem_of_getElem? (i := 2) rfl)) (fun _ h9 => h9) rfl dX3_firstShort_20 ?_
          refine lv_iload_n hx hb dX3_firstShort_23 rfl (lv_at hl 0 rfl) ?_
          refine w_iald hx hb hK hP 2 (by decide) rfl (vp_in_nI (by omega) (by decide)) dX3_firstShort_24 ?_
          rw [nI_clamp (by omega)]
          rw [hlf _ (by omega)]
          refine va_calli (va_runSN (As := [.int ((L.getD i 0))]) (rest := []) ⟨hx, hb, hml, hown, hts⟩ (c_X5_blockCountOf l (L.getD i 0)) ⟨va_cnB 1 hts gX3_firstShort_X5_blockCountOf_n58 rfl rfl rfl (hK.2 _ nm_X3_58) (hts (.initialized RX5) (List.mem_of_getElem? (i := 4) rfl)) (by decide +kernel) ⟨Nat.le_of_ble_eq_true rfl, Nat.le_of_ble_eq_true rfl⟩, (hts (.static yX5_blockCountOf) (List.mem_of_getElem? (i := 3) rfl)), trivial⟩ ⟨wU_blind, fun U hU hW => ⟨rfl, trivial⟩⟩ rfl rfl hl.1 rfl (lv_room (Nat.le_of_ble_eq_true rfl)) dX3_firstShort_25 ⟨Nat.zero_le _, Nat.zero_le _⟩) hS (fun q _ h => h.elim) (fun q h => h.elim) (fun r_4 uu t H_4 locs_4 ht hvm hw hB hz1 hk1 hS => ?_)
          have hP := hP.same hk1
          obtain rfl : r_4 = (bcI (L.getD i 0)) := hw
          refine lv_iconst (v := 2) hx hb dX3_firstShort_28 (by decide) ?_
          refine lv_icmp_ge (tgt := 34) hx hb dX3_firstShort_29 (by decide) (fun c_5 => ?_) (fun c_5 => ?_)
          · refine lv_iinc (v := (nI (i + 1))) (lv' := [(1, .int (nI (i + 1))), (0, .ref ((g 0)))]) hx hb dX3_firstShort_34 hl (k := 0) rfl (nI_1 _) (by decide) rfl (fun ls hl => ?_)
            refine lv_goto (tgt := 2) hx hb dX3_firstShort_37 (by decide) ?_
            exact ih (i + 1) _ _ ls (by omega) (fun j hj => by rcases Nat.lt_or_ge j i with q | q; exact hno j q; rw [show j = i by omega]; exact sh_f c_5) hP hS (lv_sub hl [0, 1] rfl)
          · refine lv_iload_n hx hb dX3_firstShort_32 rfl (lv_at hl 0 rfl) ?_
            exact W.iret (v := (nI i)) hx hb hr (fun t ht hW => ⟨⟨_, (), rfl, (fsI_s (fshort_some (by omega) (sh_t c_5) hno)).symm, trivial⟩, hS.F ht⟩) hS.2.2 dX3_firstShort_33
  exact L2 L.length 0 _ _ ls (Nat.zero_add _) (fun j hj => absurd hj (Nat.not_lt_zero j)) hP hS (lv_sub hl [0, 1] rfl)
set_option maxHeartbeats 4000000 in
set_option maxRecDepth 100000 in
theorem c_X3_drop (l : Launch) (E : wE) (g : Nat → Nat) (li : Bool) (kb : Int32) (al : Nat → Int32) (L : List Int32) (go tn lo : Int32) (u0 : Nat) (hp : u0 < L.length) : Met l yX3_drop wsX3_drop ({ frames := 0, cells := 0, slots := 0, locals := 0 }) (va_Pc [.ref ((g 0)), .int (nI u0)] (wS E 3 g (rcP E g li kb al L go tn lo))) (va_Qv (fun (_ : Unit) => True) (fun _ t => rcP E g li kb al (L.eraseIdx u0) go tn lo (t.heap)) (wF 3 g)) 0 0 (wF 3 g) := by
  refine Met.ofW (cc := cX3_drop) (maxL := 3) (ret := none) (by decide) rfl ?_
  intro p e s m args below meth c s₁ B hml hv
  obtain ⟨rfl, ⟨hln, lf, hlf, hP⟩, hK, hI⟩ := hv
  have hx := B.exec
  have hb := B.bytes
  have hr := B.returns
  have hts := atoms_spec (ws := wsX3_drop) B.pre
  have hown : s.vm.findClass RX3 = some m.cls := findClass_of_methodNamed B.named
  have hlocks := B.notSynchronized
  have hS : va_S (wF 3 g) s.heap s.heap [] := va_S.rf
  have hin3 : ∀ w ∈ wsX30, w ∈ wsX3_drop := by decide +kernel
  have hA : ∀ k, k < 3 → (wF 3 g) (g k) := wF_in
  have hl := lv_entry ([.ref ((g 0)), .int (nI u0)]) (n := 3) (Nat.le_of_ble_eq_true rfl)
  rw [lg_entry_eq]
  generalize (lg_sl ([.ref ((g 0)), .int (nI u0)]) ++ List.replicate (3 - (lg_sl ([.ref ((g 0)), .int (nI u0)])).length) Slot.unset).toArray = ls at hl ⊢
  have hl : lv_has ls 3 [(0, .ref ((g 0))), (1, .int (nI u0))] := hl
  refine lv_iload_n hx hb dX3_drop_0 rfl (lv_at hl 1 rfl) ?_
  refine lv_istore_n (lv' := [(2, .int (nI u0)), (0, .ref ((g 0))), (1, .int (nI u0))]) hx hb dX3_drop_1 rfl hl (by decide) rfl (fun ls hl => ?_)
  have L2 : ∀ (k : Nat) (i : Nat) (lf2 : Nat → Int32) (H : Heap) (locs : List Loc) (ls : Array Slot), i + 1 + k = L.length → u0 ≤ i → (∀ j, j < L.length → lf2 j = if j < i then (L.eraseIdx u0).getD j 0 else L.getD j 0) → wP E 3 g (rcF E g li kb al lf2 L.length go tn lo) H → va_S (wF 3 g) s.heap H locs → lv_has ls 3 [(2, .int (nI i)), (0, .ref ((g 0))), (1, .int (nI u0))] → W p l e (headSpec wsX3_drop ({ frames := 0, cells := 0, slots := 0, locals := 0 })).room s m ([.ref ((g 0)), .int (nI u0)] : List Value).toArray below meth c H locs 0 0 (MQ below (va_Qv (fun (_ : Unit) => True) (fun _ t => rcP E g li kb al (L.eraseIdx u0) go tn lo (t.heap)) (wF 3 g)) ([.ref ((g 0)), .int (nI u0)] : List Value).toArray s 0 0 (wF 3 g)) (F0 m 2 ls []) := by
    intro k
    induction k with
    | zero =>
      intro i lf2 H locs ls hi hpi hl2 hP hS hl
      refine lv_iload_n hx hb dX3_drop_2 rfl (lv_at hl 0 rfl) ?_
      refine lv_if_lt (tgt := 47) hx hb dX3_drop_3 (by decide) (fun c_1 => ?_) (fun c_1 => ?_)
      · exact absurd c_1 (nI_pos (by omega))
      · refine lv_iload_n hx hb dX3_drop_6 rfl (lv_at hl 0 rfl) ?_
        refine lv_iconst (v := 1) hx hb dX3_drop_7 (by decide) ?_
        refine lv_iadd hx hb dX3_drop_8 ?_
        rw [show nI i + 1 = nI (i + 1) from nI_1 _]
        refine lv_aload_n hx hb dX3_drop_9 rfl (lv_at hl 1 rfl) ?_
        refine w_get (C := RX3) (T := TX3) (N := 8) (ci := 3) (v := .int (nI L.length)) hx hb hts hin3 hown hK hP 0 (by decide) rfl rfl 4 (by decide) (hts (.fieldLink RX3 30 "MixedBlocks$Receiver" "waits" "I") (List.mem_of_getElem? (i := 1) rfl)) (fun _ h9 => h9) rfl dX3_drop_10 ?_
        refine lv_icmp_ge (tgt := 47) hx hb dX3_drop_13 (by decide) (fun c_2 => ?_) (fun c_2 => ?_)
        · have n_2 : L.length ≤ (i + 1) := (nI_leI (a := L.length) (b := (i + 1)) (by omega) (by omega)).mp c_2
          refine lv_aload_n hx hb dX3_drop_47 rfl (lv_at hl 1 rfl) ?_
          refine lv_dup hx hb dX3_drop_48 rfl ?_
          refine w_get (C := RX3) (T := TX3) (N := 8) (ci := 3) (v := .int (nI L.length)) hx hb hts hin3 hown hK hP 0 (by decide) rfl rfl 4 (by decide) (hts (.fieldLink RX3 30 "MixedBlocks$Receiver" "waits" "I") (List.mem_of_getElem? (i := 1) rfl)) (fun _ h9 => h9) rfl dX3_drop_49 ?_
          refine lv_iconst (v := 1) hx hb dX3_drop_52 (by decide) ?_
          refine lv_isub hx hb dX3_drop_53 ?_
          rw [show nI L.length - 1 = nI (L.length - 1) from pk_sub (a := L.length) (b := 1) (by omega)]
          refine w_put (C := RX3) (T := TX3) (N := 8) (ci := 3) (v := .int (nI (L.length - 1))) (ty := .int) hx hb hts hin3 tyX3 tyX3_ok nmX3 hown hK hP hI hA hS 0 (by decide) rfl rfl 4 (by decide) (hts (.fieldLink RX3 30 "MixedBlocks$Receiver" "waits" "I") (List.mem_of_getElem? (i := 1) rfl)) (fun _ h9 => h9) rfl (by decide +kernel) rfl rfl (Nat.le_of_ble_eq_true rfl) dX3_drop_54 (rcF E g li kb al lf2 (L.length - 1) go tn lo) rfl rc_ne0 (fun H_3 locs_3 hP hS => ?_)
          have hlen := er_len hp
          exact W.vret hx hb hr (fun t ht hW => ⟨⟨(), rfl, trivial, ⟨by rw [hlen]; omega, lf2, er_end hp (by omega) hl2, by rw [ht, hlen]; exact hP⟩⟩, hS.F ht⟩) hS.2.2 dX3_drop_57
        · have n_2 : ¬ L.length ≤ (i + 1) := fun z => c_2 ((nI_leI (a := L.length) (b := (i + 1)) (by omega) (by omega)).mpr z)
          exfalso
          omega
    | succ k ih =>
      intro i lf2 H locs ls hi hpi hl2 hP hS hl
      refine lv_iload_n hx hb dX3_drop_2 rfl (lv_at hl 0 rfl) ?_
      refine lv_if_lt (tgt := 47) hx hb dX3_drop_3 (by decide) (fun c_4 => ?_) (fun c_4 => ?_)
      · exact absurd c_4 (nI_pos (by omega))
      · refine lv_iload_n hx hb dX3_drop_6 rfl (lv_at hl 0 rfl) ?_
        refine lv_iconst (v := 1) hx hb dX3_drop_7 (by decide) ?_
        refine lv_iadd hx hb dX3_drop_8 ?_
        rw [show nI i + 1 = nI (i + 1) from nI_1 _]
        refine lv_aload_n hx hb dX3_drop_9 rfl (lv_at hl 1 rfl) ?_
        refine w_get (C := RX3) (T := TX3) (N := 8) (ci := 3) (v := .int (nI L.length)) hx hb hts hin3 hown hK hP 0 (by decide) rfl rfl 4 (by decide) (hts (.fieldLink RX3 30 "MixedBlocks$Receiver" "waits" "I") (List.mem_of_getElem? (i := 1) rfl)) (fun _ h9 => h9) rfl dX3_drop_10 ?_
        refine lv_icmp_ge (tgt := 47) hx hb dX3_drop_13 (by decide) (fun c_5 => ?_) (fun c_5 => ?_)
        · have n_5 : L.length ≤ (i + 1) := (nI_leI (a := L.length) (b := (i + 1)) (by omega) (by omega)).mp c_5
          exfalso
          omega
        · have n_5 : ¬ L.length ≤ (i + 1) := fun z => c_5 ((nI_leI (a := L.length) (b := (i + 1)) (by omega) (by omega)).mpr z)
          refine lv_iload_n hx hb dX3_drop_16 rfl (lv_at hl 0 rfl) ?_
          refine lv_iconst (v := 1) hx hb dX3_drop_17 (by decide) ?_
          refine lv_iadd hx hb dX3_drop_18 ?_
          rw [show nI i + 1 = nI (i + 1) from nI_1 _]
          refine lv_aload_n hx hb dX3_drop_19 rfl (lv_at hl 1 rfl) ?_
          refine w_get (C := RX3) (T := TX3) (N := 8) (ci := 3) (v := .ref ((g 2))) hx hb hts hin3 hown hK hP 0 (by decide) rfl rfl 3 (by decide) (hts (.fieldLink RX3 15 "MixedBlocks$Receiver" "left" "[I") (List.mem_of_getElem? (i := 2) rfl)) (fun _ h9 => h9) rfl dX3_drop_20 ?_
          refine w_alen (v := 24) hx hb hK hP 2 (by decide) rfl rfl dX3_drop_23 ?_
          refine lv_icmp_ge (tgt := 47) hx hb dX3_drop_24 (by decide) (fun c_6 => ?_) (fun c_6 => ?_)
          · have n_6 : 24 ≤ (i + 1) := (nI_leI (a := 24) (b := (i + 1)) (by omega) (by omega)).mp c_6
            exfalso
            omega
          · have n_6 : ¬ 24 ≤ (i + 1) := fun z => c_6 ((nI_leI (a := 24) (b := (i + 1)) (by omega) (by omega)).mpr z)
            refine lv_aload_n hx hb dX3_drop_27 rfl (lv_at hl 1 rfl) ?_
            refine w_get (C := RX3) (T := TX3) (N := 8) (ci := 3) (v := .ref ((g 2))) hx hb hts hin3 hown hK hP 0 (by decide) rfl rfl 3 (by decide) (hts (.fieldLink RX3 15 "MixedBlocks$Receiver" "left" "[I") (List.mem_of_getElem? (i := 2) rfl)) (fun _ h9 => h9) rfl dX3_drop_28 ?_
            refine lv_iload_n hx hb dX3_drop_31 rfl (lv_at hl 0 rfl) ?_
            refine lv_aload_n hx hb dX3_drop_32 rfl (lv_at hl 1 rfl) ?_
            refine w_get (C := RX3) (T := TX3) (N := 8) (ci := 3) (v := .ref ((g 2))) hx hb hts hin3 hown hK hP 0 (by decide) rfl rfl 3 (by decide) (hts (.fieldLink RX3 15 "MixedBlocks$Receiver" "left" "[I") (List.mem_of_getElem? (i := 2) rfl)) (fun _ h9 => h9) rfl dX3_drop_33 ?_
            refine lv_iload_n hx hb dX3_drop_36 rfl (lv_at hl 0 rfl) ?_
            refine lv_iconst (v := 1) hx hb dX3_drop_37 (by decide) ?_
            refine lv_iadd hx hb dX3_drop_38 ?_
            rw [show nI i + 1 = nI (i + 1) from nI_1 _]
            refine w_iald hx hb hK hP 2 (by decide) rfl (vp_in_nI (by omega) (by decide)) dX3_drop_39 ?_
            rw [nI_clamp (by omega)]
            rw [hl2 _ (by omega), if_neg (by omega)]
            refine w_iast hx hb hK hP hI hA hS 2 (by decide) rfl (vp_in_nI (by omega) (by decide)) dX3_drop_40 (rcF E g li kb al (upd lf2 i (L.getD (i + 1) 0)) L.length go tn lo) (congrArg (fun z : Nat => (Sum.inl (E.2.1, 24, Sum.inl (upd lf2 z (L.getD (i + 1) 0))) : va_E)) (nI_clamp (by omega)).symm) rc_ne2 (fun H_7 locs_7 hP hS => ?_)
            refine lv_iinc (v := (nI (i + 1))) (lv' := [(2, .int (nI (i + 1))), (0, .ref ((g 0))), (1, .int (nI u0))]) hx hb dX3_drop_41 hl (k := 0) rfl (nI_1 _) (by decide) rfl (fun ls hl => ?_)
            refine lv_goto (tgt := 2) hx hb dX3_drop_44 (by decide) ?_
            exact ih (i + 1) (upd lf2 i (L.getD (i + 1) 0)) _ _ ls (by omega) (by omega) (er_step (by omega) hl2 rfl) hP hS (lv_sub hl [0, 1, 2] rfl)
  exact L2 (L.length - 1 - u0) u0 lf _ _ ls (by omega) (Nat.le_refl u0) (er_0 hlf) hP hS (lv_sub hl [0, 1, 2] rfl)
set_option maxHeartbeats 4000000 in
set_option maxRecDepth 100000 in
theorem c_X3_learn (l : Launch) (E : wE) (g : Nat → Nat) (li : Bool) (kb : Int32) (al : Nat → Int32) (L : List Int32) (go tn lo : Int32) (x : Int32) : Met l yX3_learn wsX3_learn ({ frames := 1, cells := 0, slots := 0, locals := 21 }) (va_Pc [.ref ((g 0)), .int x] (wS E 3 g (rcP E g li kb al L go tn lo))) (va_Qv (fun (_ : Unit) => True) (fun _ t => rcP E g li (kb ||| (x &&& 4095)) (lrnA x al) (L.map (lrn x)) go tn lo (t.heap)) (wF 3 g)) 0 0 (wF 3 g) := by
  refine Met.ofW (cc := cX3_learn) (maxL := 3) (ret := none) (by decide) rfl ?_
  intro p e s m args below meth c s₁ B hml hv
  obtain ⟨rfl, ⟨hln, lf, hlf, hP⟩, hK, hI⟩ := hv
  have hx := B.exec
  have hb := B.bytes
  have hr := B.returns
  have hts := atoms_spec (ws := wsX3_learn) B.pre
  have hown : s.vm.findClass RX3 = some m.cls := findClass_of_methodNamed B.named
  have hlocks := B.notSynchronized
  have hS : va_S (wF 3 g) s.heap s.heap [] := va_S.rf
  have hin3 : ∀ w ∈ wsX30, w ∈ wsX3_learn := by decide +kernel
  have hA : ∀ k, k < 3 → (wF 3 g) (g k) := wF_in
  have hl := lv_entry ([.ref ((g 0)), .int x]) (n := 3) (Nat.le_of_ble_eq_true rfl)
  rw [lg_entry_eq]
  generalize (lg_sl ([.ref ((g 0)), .int x]) ++ List.replicate (3 - (lg_sl ([.ref ((g 0)), .int x])).length) Slot.unset).toArray = ls at hl ⊢
  have hl : lv_has ls 3 [(0, .ref ((g 0))), (1, .int x)] := hl
  refine lv_aload_n hx hb dX3_learn_0 rfl (lv_at hl 0 rfl) ?_
  refine lv_dup hx hb dX3_learn_1 rfl ?_
  refine w_get (C := RX3) (T := TX3) (N := 8) (ci := 3) (v := .int kb) hx hb hts hin3 hown hK hP 0 (by decide) rfl rfl 1 (by decide) (hts (.fieldLink RX3 22 "MixedBlocks$Receiver" "knownBlocks" "I") (List.mem_of_getElem? (i := 1) rfl)) (fun _ h9 => h9) rfl dX3_learn_2 ?_
  refine lv_iload_n hx hb dX3_learn_5 rfl (lv_at hl 1 rfl) ?_
  refine va_calli (va_runSN (As := [.int x]) (rest := [.int kb, .ref ((g 0))]) ⟨hx, hb, hml, hown, hts⟩ (c_X5_blocksOf l x) ⟨va_cnB 1 hts gX3_learn_X5_blocksOf_n64 rfl rfl rfl (hK.2 _ nm_X3_64) (hts (.initialized RX5) (List.mem_of_getElem? (i := 6) rfl)) (by decide +kernel) ⟨Nat.le_of_ble_eq_true rfl, Nat.le_of_ble_eq_true rfl⟩, (hts (.static yX5_blocksOf) (List.mem_of_getElem? (i := 5) rfl)), trivial⟩ ⟨wU_blind, fun U hU hW => ⟨rfl, trivial⟩⟩ rfl rfl hl.1 rfl (lv_room (Nat.le_of_ble_eq_true rfl)) dX3_learn_6 ⟨Nat.zero_le _, Nat.zero_le _⟩) hS (fun q _ h => h.elim) (fun q h => h.elim) (fun r_1 uu t H_1 locs_1 ht hvm hw hB hz1 hk1 hS => ?_)
  have hP := hP.same hk1
  obtain rfl : r_1 = (x &&& 4095) := hw
  refine lv_ior hx hb dX3_learn_9 ?_
  refine w_put (C := RX3) (T := TX3) (N := 8) (ci := 3) (v := .int ((kb ||| (x &&& 4095)))) (ty := .int) hx hb hts hin3 tyX3 tyX3_ok nmX3 hown hK hP hI hA hS 0 (by decide) rfl rfl 1 (by decide) (hts (.fieldLink RX3 22 "MixedBlocks$Receiver" "knownBlocks" "I") (List.mem_of_getElem? (i := 1) rfl)) (fun _ h9 => h9) rfl (by decide +kernel) rfl rfl (Nat.le_of_ble_eq_true rfl) dX3_learn_10 (rcF E g li (kb ||| (x &&& 4095)) al lf L.length go tn lo) rfl rc_ne0 (fun H_2 locs_2 hP hS => ?_)
  refine lv_iconst (v := 0) hx hb dX3_learn_13 (by decide) ?_
  refine lv_istore_n (lv' := [(2, .int 0), (0, .ref ((g 0))), (1, .int x)]) hx hb dX3_learn_14 rfl hl (by decide) rfl (fun ls hl => ?_)
  rw [← lrnAi_0 x al] at hP
  have L15 : ∀ (k : Nat) (i : Nat) (H : Heap) (locs : List Loc) (ls : Array Slot), i + k = 12 → wP E 3 g (rcF E g li (kb ||| (x &&& 4095)) (lrnAi x al i) lf L.length go tn lo) H → va_S (wF 3 g) s.heap H locs → lv_has ls 3 [(2, .int (nI i)), (0, .ref ((g 0))), (1, .int x)] → W p l e (headSpec wsX3_learn ({ frames := 1, cells := 0, slots := 0, locals := 21 })).room s m ([.ref ((g 0)), .int x] : List Value).toArray below meth c H locs 0 0 (MQ below (va_Qv (fun (_ : Unit) => True) (fun _ t => rcP E g li (kb ||| (x &&& 4095)) (lrnA x al) (L.map (lrn x)) go tn lo (t.heap)) (wF 3 g)) ([.ref ((g 0)), .int x] : List Value).toArray s 0 0 (wF 3 g)) (F0 m 15 ls []) := by
    intro k
    induction k with
    | zero =>
      intro i H locs ls hi hP hS hl
      refine lv_iload_n hx hb dX3_learn_15 rfl (lv_at hl 0 rfl) ?_
      refine lv_aload_n hx hb dX3_learn_16 rfl (lv_at hl 1 rfl) ?_
      refine w_get (C := RX3) (T := TX3) (N := 8) (ci := 3) (v := .ref ((g 1))) hx hb hts hin3 hown hK hP 0 (by decide) rfl rfl 2 (by decide) (hts (.fieldLink RX3 9 "MixedBlocks$Receiver" "alone" "[I") (List.mem_of_getElem? (i := 2) rfl)) (fun _ h9 => h9) rfl dX3_learn_17 ?_
      refine w_alen (v := 12) hx hb hK hP 1 (by decide) rfl rfl dX3_learn_20 ?_
      refine lv_icmp_ge (tgt := 45) hx hb dX3_learn_21 (by decide) (fun c_3 => ?_) (fun c_3 => ?_)
      · have n_3 : 12 ≤ i := (nI_leI (a := 12) (b := i) (by omega) (by omega)).mp c_3
        refine lv_iconst (v := 0) hx hb dX3_learn_45 (by decide) ?_
        refine lv_istore_n (lv' := [(2, .int 0), (0, .ref ((g 0))), (1, .int x)]) hx hb dX3_learn_46 rfl hl (by decide) rfl (fun ls hl => ?_)
        rw [show i = 12 from by omega] at hP
        have hP : wP E 3 g (rcF E g li (kb ||| (x &&& 4095)) (lrnA x al) lf L.length go tn lo) _ := hP
        have L47 : ∀ (k : Nat) (i : Nat) (lf2 : Nat → Int32) (H : Heap) (locs : List Loc) (ls : Array Slot), i + k = L.length → (∀ j, j < L.length → lf2 j = if j < i then lrn x (L.getD j 0) else L.getD j 0) → wP E 3 g (rcF E g li (kb ||| (x &&& 4095)) (lrnA x al) lf2 L.length go tn lo) H → va_S (wF 3 g) s.heap H locs → lv_has ls 3 [(2, .int (nI i)), (0, .ref ((g 0))), (1, .int x)] → W p l e (headSpec wsX3_learn ({ frames := 1, cells := 0, slots := 0, locals := 21 })).room s m ([.ref ((g 0)), .int x] : List Value).toArray below meth c H locs 0 0 (MQ below (va_Qv (fun (_ : Unit) => True) (fun _ t => rcP E g li (kb ||| (x &&& 4095)) (lrnA x al) (L.map (lrn x)) go tn lo (t.heap)) (wF 3 g)) ([.ref ((g 0)), .int x] : List Value).toArray s 0 0 (wF 3 g)) (F0 m 47 ls []) := by
          intro k
          induction k with
          | zero =>
            intro i lf2 H locs ls hi hl2 hP hS hl
            refine lv_iload_n hx hb dX3_learn_47 rfl (lv_at hl 0 rfl) ?_
            refine lv_aload_n hx hb dX3_learn_48 rfl (lv_at hl 1 rfl) ?_
            refine w_get (C := RX3) (T := TX3) (N := 8) (ci := 3) (v := .int (nI L.length)) hx hb hts hin3 hown hK hP 0 (by decide) rfl rfl 4 (by decide) (hts (.fieldLink RX3 30 "MixedBlocks$Receiver" "waits" "I") (List.mem_of_getElem? (i := 3) rfl)) (fun _ h9 => h9) rfl dX3_learn_49 ?_
            refine lv_icmp_ge (tgt := 94) hx hb dX3_learn_52 (by decide) (fun c_4 => ?_) (fun c_4 => ?_)
            · have n_4 : L.length ≤ i := (nI_leI (a := L.length) (b := i) (by omega) (by omega)).mp c_4
              exact W.vret hx hb hr (fun t ht hW => ⟨⟨(), rfl, trivial, ⟨by rw [List.length_map]; exact hln, lf2, lrn_end (by omega) hl2, by rw [ht, List.length_map]; exact hP⟩⟩, hS.F ht⟩) hS.2.2 dX3_learn_94
            · have n_4 : ¬ L.length ≤ i := fun z => c_4 ((nI_leI (a := L.length) (b := i) (by omega) (by omega)).mpr z)
              exfalso
              omega
          | succ k ih =>
            intro i lf2 H locs ls hi hl2 hP hS hl
            refine lv_iload_n hx hb dX3_learn_47 rfl (lv_at hl 0 rfl) ?_
            refine lv_aload_n hx hb dX3_learn_48 rfl (lv_at hl 1 rfl) ?_
            refine w_get (C := RX3) (T := TX3) (N := 8) (ci := 3) (v := .int (nI L.length)) hx hb hts hin3 hown hK hP 0 (by decide) rfl rfl 4 (by decide) (hts (.fieldLink RX3 30 "MixedBlocks$Receiver" "waits" "I") (List.mem_of_getElem? (i := 3) rfl)) (fun _ h9 => h9) rfl dX3_learn_49 ?_
            refine lv_icmp_ge (tgt := 94) hx hb dX3_learn_52 (by decide) (fun c_5 => ?_) (fun c_5 => ?_)
            · have n_5 : L.length ≤ i := (nI_leI (a := L.length) (b := i) (by omega) (by omega)).mp c_5
              exfalso
              omega
            · have n_5 : ¬ L.length ≤ i := fun z => c_5 ((nI_leI (a := L.length) (b := i) (by omega) (by omega)).mpr z)
              refine lv_iload_n hx hb dX3_learn_55 rfl (lv_at hl 0 rfl) ?_
              refine lv_aload_n hx hb dX3_learn_56 rfl (lv_at hl 1 rfl) ?_
              refine w_get (C := RX3) (T := TX3) (N := 8) (ci := 3) (v := .ref ((g 2))) hx hb hts hin3 hown hK hP 0 (by decide) rfl rfl 3 (by decide) (hts (.fieldLink RX3 15 "MixedBlocks$Receiver" "left" "[I") (List.mem_of_getElem? (i := 4) rfl)) (fun _ h9 => h9) rfl dX3_learn_57 ?_
              refine w_alen (v := 24) hx hb hK hP 2 (by decide) rfl rfl dX3_learn_60 ?_
              refine lv_icmp_ge (tgt := 94) hx hb dX3_learn_61 (by decide) (fun c_6 => ?_) (fun c_6 => ?_)
              · have n_6 : 24 ≤ i := (nI_leI (a := 24) (b := i) (by omega) (by omega)).mp c_6
                exfalso
                omega
              · have n_6 : ¬ 24 ≤ i := fun z => c_6 ((nI_leI (a := 24) (b := i) (by omega) (by omega)).mpr z)
                refine lv_aload_n hx hb dX3_learn_64 rfl (lv_at hl 1 rfl) ?_
                refine w_get (C := RX3) (T := TX3) (N := 8) (ci := 3) (v := .ref ((g 2))) hx hb hts hin3 hown hK hP 0 (by decide) rfl rfl 3 (by decide) (hts (.fieldLink RX3 15 "MixedBlocks$Receiver" "left" "[I") (List.mem_of_getElem? (i := 4) rfl)) (fun _ h9 => h9) rfl dX3_learn_65 ?_
                refine lv_iload_n hx hb dX3_learn_68 rfl (lv_at hl 0 rfl) ?_
                refine w_iald hx hb hK hP 2 (by decide) rfl (vp_in_nI (by omega) (by decide)) dX3_learn_69 ?_
                rw [nI_clamp (by omega)]
                rw [hl2 _ (by omega), if_neg (by omega)]
                refine lv_iload_n hx hb dX3_learn_70 rfl (lv_at hl 2 rfl) ?_
                refine lv_iand hx hb dX3_learn_71 ?_
                refine va_calli (va_runSN (As := [.int (((L.getD i 0) &&& x))]) (rest := []) ⟨hx, hb, hml, hown, hts⟩ (c_X5_blocksOf l ((L.getD i 0) &&& x)) ⟨va_cnB 1 hts gX3_learn_X5_blocksOf_n64 rfl rfl rfl (hK.2 _ nm_X3_64) (hts (.initialized RX5) (List.mem_of_getElem? (i := 6) rfl)) (by decide +kernel) ⟨Nat.le_of_ble_eq_true rfl, Nat.le_of_ble_eq_true rfl⟩, (hts (.static yX5_blocksOf) (List.mem_of_getElem? (i := 5) rfl)), trivial⟩ ⟨wU_blind, fun U hU hW => ⟨rfl, trivial⟩⟩ rfl rfl hl.1 rfl (lv_room (Nat.le_of_ble_eq_true rfl)) dX3_learn_72 ⟨Nat.zero_le _, Nat.zero_le _⟩) hS (fun q _ h => h.elim) (fun q h => h.elim) (fun r_7 uu t H_7 locs_7 ht hvm hw hB hz1 hk1 hS => ?_)
                have hP := hP.same hk1
                obtain rfl : r_7 = (((L.getD i 0) &&& x) &&& 4095) := hw
                refine lv_if_eq (tgt := 88) hx hb dX3_learn_75 (by decide) (fun c_8 => ?_) (fun c_8 => ?_)
                · refine lv_iinc (v := (nI (i + 1))) (lv' := [(2, .int (nI (i + 1))), (0, .ref ((g 0))), (1, .int x)]) hx hb dX3_learn_88 hl (k := 0) rfl (nI_1 _) (by decide) rfl (fun ls hl => ?_)
                  refine lv_goto (tgt := 47) hx hb dX3_learn_91 (by decide) ?_
                  exact ih (i + 1) lf2 _ _ ls (by omega) (lrn_sk hl2 (if_pos c_8).symm) hP hS (lv_sub hl [0, 1, 2] rfl)
                · refine lv_aload_n hx hb dX3_learn_78 rfl (lv_at hl 1 rfl) ?_
                  refine w_get (C := RX3) (T := TX3) (N := 8) (ci := 3) (v := .ref ((g 2))) hx hb hts hin3 hown hK hP 0 (by decide) rfl rfl 3 (by decide) (hts (.fieldLink RX3 15 "MixedBlocks$Receiver" "left" "[I") (List.mem_of_getElem? (i := 4) rfl)) (fun _ h9 => h9) rfl dX3_learn_79 ?_
                  refine lv_iload_n hx hb dX3_learn_82 rfl (lv_at hl 0 rfl) ?_
                  refine lv_dup2_11 hx hb dX3_learn_83 rfl rfl ?_
                  refine w_iald hx hb hK hP 2 (by decide) rfl (vp_in_nI (by omega) (by decide)) dX3_learn_84 ?_
                  rw [nI_clamp (by omega)]
                  rw [hl2 _ (by omega), if_neg (by omega)]
                  refine lv_iload_n hx hb dX3_learn_85 rfl (lv_at hl 2 rfl) ?_
                  refine lv_ixor hx hb dX3_learn_86 ?_
                  refine w_iast hx hb hK hP hI hA hS 2 (by decide) rfl (vp_in_nI (by omega) (by decide)) dX3_learn_87 (rcF E g li (kb ||| (x &&& 4095)) (lrnA x al) (upd lf2 i ((L.getD i 0) ^^^ x)) L.length go tn lo) (congrArg (fun z : Nat => (Sum.inl (E.2.1, 24, Sum.inl (upd lf2 z ((L.getD i 0) ^^^ x))) : va_E)) (nI_clamp (by omega)).symm) rc_ne2 (fun H_9 locs_9 hP hS => ?_)
                  refine lv_iinc (v := (nI (i + 1))) (lv' := [(2, .int (nI (i + 1))), (0, .ref ((g 0))), (1, .int x)]) hx hb dX3_learn_88 hl (k := 0) rfl (nI_1 _) (by decide) rfl (fun ls hl => ?_)
                  refine lv_goto (tgt := 47) hx hb dX3_learn_91 (by decide) ?_
                  exact ih (i + 1) (upd lf2 i ((L.getD i 0) ^^^ x)) _ _ ls (by omega) (lrn_st hl2 (if_neg c_8).symm) hP hS (lv_sub hl [0, 1, 2] rfl)
        exact L47 L.length 0 lf _ _ ls (Nat.zero_add _) (fun j hj => by rw [if_neg (Nat.not_lt_zero j)]; exact hlf j hj) hP hS (lv_sub hl [0, 1, 2] rfl)
      · have n_3 : ¬ 12 ≤ i := fun z => c_3 ((nI_leI (a := 12) (b := i) (by omega) (by omega)).mpr z)
        exfalso
        omega
    | succ k ih =>
      intro i H locs ls hi hP hS hl
      refine lv_iload_n hx hb dX3_learn_15 rfl (lv_at hl 0 rfl) ?_
      refine lv_aload_n hx hb dX3_learn_16 rfl (lv_at hl 1 rfl) ?_
      refine w_get (C := RX3) (T := TX3) (N := 8) (ci := 3) (v := .ref ((g 1))) hx hb hts hin3 hown hK hP 0 (by decide) rfl rfl 2 (by decide) (hts (.fieldLink RX3 9 "MixedBlocks$Receiver" "alone" "[I") (List.mem_of_getElem? (i := 2) rfl)) (fun _ h9 => h9) rfl dX3_learn_17 ?_
      refine w_alen (v := 12) hx hb hK hP 1 (by decide) rfl rfl dX3_learn_20 ?_
      refine lv_icmp_ge (tgt := 45) hx hb dX3_learn_21 (by decide) (fun c_10 => ?_) (fun c_10 => ?_)
      · have n_10 : 12 ≤ i := (nI_leI (a := 12) (b := i) (by omega) (by omega)).mp c_10
        exfalso
        omega
      · have n_10 : ¬ 12 ≤ i := fun z => c_10 ((nI_leI (a := 12) (b := i) (by omega) (by omega)).mpr z)
        refine lv_iload_n hx hb dX3_learn_24 rfl (lv_at hl 2 rfl) ?_
        refine lv_iload_n hx hb dX3_learn_25 rfl (lv_at hl 0 rfl) ?_
        refine va_calli (va_runSN (As := [.int x, .int (nI i)]) (rest := []) ⟨hx, hb, hml, hown, hts⟩ (c_X5_holds l x (nI i)) ⟨va_cnB 2 hts gX3_learn_X5_holds_n48 rfl rfl rfl (hK.2 _ nm_X3_48) (hts (.initialized RX5) (List.mem_of_getElem? (i := 6) rfl)) (by decide +kernel) ⟨Nat.le_of_ble_eq_true rfl, Nat.le_of_ble_eq_true rfl⟩, (hts (.static yX5_holds) (List.mem_of_getElem? (i := 8) rfl)), trivial⟩ ⟨wU_blind, fun U hU hW => ⟨rfl, trivial⟩⟩ rfl rfl hl.1 rfl (lv_room (Nat.le_of_ble_eq_true rfl)) dX3_learn_26 ⟨Nat.zero_le _, Nat.zero_le _⟩) hS (fun q _ h => h.elim) (fun q h => h.elim) (fun r_11 uu t H_11 locs_11 ht hvm hw hB hz1 hk1 hS => ?_)
        have hP := hP.same hk1
        obtain rfl : r_11 = (hldI x (nI i)) := hw
        refine lv_if_eq (tgt := 39) hx hb dX3_learn_29 (by decide) (fun c_12 => ?_) (fun c_12 => ?_)
        · refine lv_iinc (v := (nI (i + 1))) (lv' := [(2, .int (nI (i + 1))), (0, .ref ((g 0))), (1, .int x)]) hx hb dX3_learn_39 hl (k := 0) rfl (nI_1 _) (by decide) rfl (fun ls hl => ?_)
          refine lv_goto (tgt := 15) hx hb dX3_learn_42 (by decide) ?_
          rw [lrnAi_z c_12] at hP
          exact ih (i + 1) _ _ ls (by omega) hP hS (lv_sub hl [0, 1, 2] rfl)
        · refine lv_aload_n hx hb dX3_learn_32 rfl (lv_at hl 1 rfl) ?_
          refine w_get (C := RX3) (T := TX3) (N := 8) (ci := 3) (v := .ref ((g 1))) hx hb hts hin3 hown hK hP 0 (by decide) rfl rfl 2 (by decide) (hts (.fieldLink RX3 9 "MixedBlocks$Receiver" "alone" "[I") (List.mem_of_getElem? (i := 2) rfl)) (fun _ h9 => h9) rfl dX3_learn_33 ?_
          refine lv_iload_n hx hb dX3_learn_36 rfl (lv_at hl 0 rfl) ?_
          refine lv_iload_n hx hb dX3_learn_37 rfl (lv_at hl 2 rfl) ?_
          refine w_iast hx hb hK hP hI hA hS 1 (by decide) rfl (vp_in_nI (by omega) (by decide)) dX3_learn_38 (rcF E g li (kb ||| (x &&& 4095)) (upd (lrnAi x al i) i x) lf L.length go tn lo) (congrArg (fun z : Nat => (Sum.inl (E.2.1, 12, Sum.inl (upd (lrnAi x al i) z x)) : va_E)) (nI_clamp (by omega)).symm) rc_ne1 (fun H_13 locs_13 hP hS => ?_)
          refine lv_iinc (v := (nI (i + 1))) (lv' := [(2, .int (nI (i + 1))), (0, .ref ((g 0))), (1, .int x)]) hx hb dX3_learn_39 hl (k := 0) rfl (nI_1 _) (by decide) rfl (fun ls hl => ?_)
          refine lv_goto (tgt := 15) hx hb dX3_learn_42 (by decide) ?_
          rw [lrnAi_y c_12] at hP
          exact ih (i + 1) _ _ ls (by omega) hP hS (lv_sub hl [0, 1, 2] rfl)
  exact L15 12 0 _ _ ls rfl hP hS (lv_sub hl [0, 1, 2] rfl)
