set_option maxHeartbeats 4000000 in
set_option maxRecDepth 100000 in
theorem c_X2_startNumber (l : Launch) (E : wE) (g : Nat → Nat) (fi : Int32) (nu di : Nat)  : Met l yX2_startNumber wsX2_startNumber ({ frames := 0, cells := 0, slots := 0, locals := 0 }) (va_Pc [.ref ((g 0))] (wS E 1 g (paP E g (fi, nu, di)))) (va_Qv (fun (_ : Unit) => True) (fun _ t => paP E g (fi, 0, 0) (t.heap)) (wF 1 g)) 0 0 (wF 1 g) := by
  refine Met.ofW (cc := cX2_startNumber) (maxL := 1) (ret := none) (by decide) rfl ?_
  intro p e s m args below meth c s₁ B hml hv
  obtain ⟨rfl, hP, hK, hI⟩ := hv
  have hx := B.exec
  have hb := B.bytes
  have hr := B.returns
  have hts := atoms_spec (ws := wsX2_startNumber) B.pre
  have hown : s.vm.findClass RX2 = some m.cls := findClass_of_methodNamed B.named
  have hlocks := B.notSynchronized
  have hS : va_S (wF 1 g) s.heap s.heap [] := va_S.rf
  have hin2 : ∀ w ∈ wsX20, w ∈ wsX2_startNumber := by decide +kernel
  have hA : ∀ k, k < 1 → (wF 1 g) (g k) := wF_in
  have hl := lv_entry ([.ref ((g 0))]) (n := 1) (Nat.le_of_ble_eq_true rfl)
  rw [lg_entry_eq]
  generalize (lg_sl ([.ref ((g 0))]) ++ List.replicate (1 - (lg_sl ([.ref ((g 0))])).length) Slot.unset).toArray = ls at hl ⊢
  have hl : lv_has ls 1 [(0, .ref ((g 0)))] := hl
  have hP : wP E 1 g (paF fi nu di) s.heap := hP
  refine lv_aload_n hx hb dX2_startNumber_0 rfl (lv_at hl 0 rfl) ?_
  refine lv_iconst (v := 0) hx hb dX2_startNumber_1 (by decide) ?_
  refine w_put (C := RX2) (T := TX2) (N := 3) (ci := 2) (v := .int 0) (ty := .int) hx hb hts hin2 tyX2 tyX2_ok nmX2 hown hK hP hI hA hS 0 (by decide) rfl rfl 1 (by decide) (hts (.fieldLink RX2 15 "MixedBlocks$Part" "number" "I") (List.mem_of_getElem? (i := 1) rfl)) (fun _ h9 => h9) rfl (by decide +kernel) rfl rfl (Nat.le_of_ble_eq_true rfl) dX2_startNumber_2 (paF fi 0 di) rfl pa_ne (fun H_1 locs_1 hP hS => ?_)
  refine lv_aload_n hx hb dX2_startNumber_5 rfl (lv_at hl 0 rfl) ?_
  refine lv_iconst (v := 0) hx hb dX2_startNumber_6 (by decide) ?_
  refine w_put (C := RX2) (T := TX2) (N := 3) (ci := 2) (v := .int 0) (ty := .int) hx hb hts hin2 tyX2 tyX2_ok nmX2 hown hK hP hI hA hS 0 (by decide) rfl rfl 2 (by decide) (hts (.fieldLink RX2 18 "MixedBlocks$Part" "digits" "I") (List.mem_of_getElem? (i := 2) rfl)) (fun _ h9 => h9) rfl (by decide +kernel) rfl rfl (Nat.le_of_ble_eq_true rfl) dX2_startNumber_7 (paF fi 0 0) rfl pa_ne (fun H_2 locs_2 hP hS => ?_)
  exact W.vret hx hb hr (fun t ht hW => ⟨⟨(), rfl, trivial, (by show paP E g (fi, 0, 0) t.heap; rw [ht]; exact hP)⟩, hS.F ht⟩) hS.2.2 dX2_startNumber_10
set_option maxHeartbeats 4000000 in
set_option maxRecDepth 100000 in
theorem c_X2_begin (l : Launch) (E : wE) (g : Nat → Nat) (fi : Int32) (nu di : Nat)  : Met l yX2_begin wsX2_begin ({ frames := 1, cells := 0, slots := 0, locals := 20 }) (va_Pc [.ref ((g 0))] (wS E 1 g (paP E g (fi, nu, di)))) (va_Qv (fun (_ : Unit) => True) (fun _ t => paP E g (-1, 0, 0) (t.heap)) (wF 1 g)) 0 0 (wF 1 g) := by
  refine Met.ofW (cc := cX2_begin) (maxL := 1) (ret := none) (by decide) rfl ?_
  intro p e s m args below meth c s₁ B hml hv
  obtain ⟨rfl, hP, hK, hI⟩ := hv
  have hx := B.exec
  have hb := B.bytes
  have hr := B.returns
  have hts := atoms_spec (ws := wsX2_begin) B.pre
  have hown : s.vm.findClass RX2 = some m.cls := findClass_of_methodNamed B.named
  have hlocks := B.notSynchronized
  have hS : va_S (wF 1 g) s.heap s.heap [] := va_S.rf
  have hin2 : ∀ w ∈ wsX20, w ∈ wsX2_begin := by decide +kernel
  have hA : ∀ k, k < 1 → (wF 1 g) (g k) := wF_in
  have hl := lv_entry ([.ref ((g 0))]) (n := 1) (Nat.le_of_ble_eq_true rfl)
  rw [lg_entry_eq]
  generalize (lg_sl ([.ref ((g 0))]) ++ List.replicate (1 - (lg_sl ([.ref ((g 0))])).length) Slot.unset).toArray = ls at hl ⊢
  have hl : lv_has ls 1 [(0, .ref ((g 0)))] := hl
  have hP : wP E 1 g (paF fi nu di) s.heap := hP
  refine lv_aload_n hx hb dX2_begin_0 rfl (lv_at hl 0 rfl) ?_
  refine lv_iconst (v := (-1)) hx hb dX2_begin_1 (by decide) ?_
  refine w_put (C := RX2) (T := TX2) (N := 3) (ci := 2) (v := .int ((-1))) (ty := .int) hx hb hts hin2 tyX2 tyX2_ok nmX2 hown hK hP hI hA hS 0 (by decide) rfl rfl 0 (by decide) (hts (.fieldLink RX2 9 "MixedBlocks$Part" "first" "I") (List.mem_of_getElem? (i := 1) rfl)) (fun _ h9 => h9) rfl (by decide +kernel) rfl rfl (Nat.le_of_ble_eq_true rfl) dX2_begin_2 (paF (-1) nu di) rfl pa_ne (fun H_1 locs_1 hP hS => ?_)
  refine lv_aload_n hx hb dX2_begin_5 rfl (lv_at hl 0 rfl) ?_
  refine va_callv (va_runV (As := []) (rest := []) ⟨hx, hb, hml, hown, hts⟩ (c_X2_startNumber l E g (-1) nu di ) (cwV 0 hts gX2_begin_X2_startNumber rfl rfl rfl (by decide +kernel) ⟨Nat.le_of_ble_eq_true rfl, Nat.le_of_ble_eq_true rfl⟩) ⟨wS.blind, (w_recv hK hP 0 (by decide) rfl (ci := 2) rfl), fun U hU hW => wS.go hP hK hI hU hW⟩ rfl rfl hl.1 rfl (lv_room (Nat.le_of_ble_eq_true rfl)) dX2_begin_6 ⟨Nat.zero_le _, Nat.zero_le _⟩) hS (fun q _ h => h) (fun q h => h) (fun uu t H_2 locs_2 ht hvm hw hB hz1 hk1 hS => ?_)
  rw [ht] at hB
  have hP : wP E 1 g (paF (-1) 0 0) H_2 := hB
  exact W.vret hx hb hr (fun t ht hW => ⟨⟨(), rfl, trivial, (by show paP E g (-1, 0, 0) t.heap; rw [ht]; exact hP)⟩, hS.F ht⟩) hS.2.2 dX2_begin_9
set_option maxHeartbeats 4000000 in
set_option maxRecDepth 100000 in
theorem c_X2_greatest (l : Launch) (b d0 : Nat) (hb5 : b ≤ 99999) (hd1 : 1 ≤ d0) (hd4 : d0 ≤ 4) : Met l yX2_greatest wsX2_greatest ({ frames := 0, cells := 0, slots := 0, locals := 0 }) (va_Pc [.int (nI b), .int (nI d0)] (fun _ => True)) (va_Qi (fun (r : Int32) (_ : Unit) => r = nI (grN b d0)) (fun _ t => True) wN) 0 0 wN := by
  refine Met.ofW (cc := cX2_greatest) (maxL := 4) (ret := (some .int)) (by decide) rfl ?_
  intro p e s m args below meth c s₁ B hml hv
  obtain ⟨rfl, -⟩ := hv
  have hx := B.exec
  have hb := B.bytes
  have hr := B.returns
  have hts := atoms_spec (ws := wsX2_greatest) B.pre
  have hown : s.vm.findClass RX2 = some m.cls := findClass_of_methodNamed B.named
  have hlocks := B.notSynchronized
  have hS : va_S wN s.heap s.heap [] := va_S.rf
  have hl := lv_entry ([.int (nI b), .int (nI d0)]) (n := 4) (Nat.le_of_ble_eq_true rfl)
  rw [lg_entry_eq]
  generalize (lg_sl ([.int (nI b), .int (nI d0)]) ++ List.replicate (4 - (lg_sl ([.int (nI b), .int (nI d0)])).length) Slot.unset).toArray = ls at hl ⊢
  have hl : lv_has ls 4 [(0, .int (nI b)), (1, .int (nI d0))] := hl
  refine lv_iload_n hx hb dX2_greatest_0 rfl (lv_at hl 0 rfl) ?_
  refine lv_istore_n (lv' := [(2, .int (nI b)), (0, .int (nI b)), (1, .int (nI d0))]) hx hb dX2_greatest_1 rfl hl (by decide) rfl (fun ls hl => ?_)
  refine lv_iload_n hx hb dX2_greatest_2 rfl (lv_at hl 2 rfl) ?_
  refine lv_istore_n (lv' := [(3, .int (nI d0)), (2, .int (nI b)), (0, .int (nI b)), (1, .int (nI d0))]) hx hb dX2_greatest_3 rfl hl (by decide) rfl (fun ls hl => ?_)
  by_cases hb0 : b = 0
  · refine lv_iload_n hx hb dX2_greatest_4 rfl (lv_at hl 0 rfl) ?_
    refine lv_iconst (v := 4) hx hb dX2_greatest_5 (by decide) ?_
    refine lv_icmp_ge (tgt := 27) hx hb dX2_greatest_6 (by decide) (fun c_1 => ?_) (fun c_1 => ?_)
    · refine lv_iload_n hx hb dX2_greatest_27 rfl (lv_at hl 1 rfl) ?_
      exact W.iret (v := (nI b)) hx hb hr (fun t ht hW => ⟨⟨_, (), rfl, (by show _ = _; rw [grN, if_pos hb0, hb0]), trivial⟩, hS.F ht⟩) hS.2.2 dX2_greatest_28
    · refine lv_iload_n hx hb dX2_greatest_9 rfl (lv_at hl 2 rfl) ?_
      refine lv_if_le (tgt := 27) hx hb dX2_greatest_10 (by decide) (fun c_2 => ?_) (fun c_2 => ?_)
      · refine lv_iload_n hx hb dX2_greatest_27 rfl (lv_at hl 1 rfl) ?_
        exact W.iret (v := (nI b)) hx hb hr (fun t ht hW => ⟨⟨_, (), rfl, (by show _ = _; rw [grN, if_pos hb0, hb0]), trivial⟩, hS.F ht⟩) hS.2.2 dX2_greatest_28
      · exact absurd (by rw [hb0]; exact Int32.le_refl 0) c_2
  · have hgr : grN b d0 = gw9 (4 - d0) b := if_neg hb0
    have L4 : ∀ (k : Nat) (i mm : Nat) (H : Heap) (locs : List Loc) (ls : Array Slot), i + k = 4 → 1 ≤ i → gw9 k mm = grN b d0 → va_S wN s.heap H locs → lv_has ls 4 [(3, .int (nI i)), (2, .int (nI mm)), (0, .int (nI b)), (1, .int (nI d0))] → W p l e (headSpec wsX2_greatest ({ frames := 0, cells := 0, slots := 0, locals := 0 })).room s m ([.int (nI b), .int (nI d0)] : List Value).toArray below meth c H locs 0 0 (MQ below (va_Qi (fun (r : Int32) (_ : Unit) => r = nI (grN b d0)) (fun _ t => True) wN) ([.int (nI b), .int (nI d0)] : List Value).toArray s 0 0 wN) (F0 m 4 ls []) := by
      intro k
      induction k with
      | zero =>
        intro i mm H locs ls hi hi1 hres hS hl
        refine lv_iload_n hx hb dX2_greatest_4 rfl (lv_at hl 0 rfl) ?_
        refine lv_iconst (v := 4) hx hb dX2_greatest_5 (by decide) ?_
        refine lv_icmp_ge (tgt := 27) hx hb dX2_greatest_6 (by decide) (fun c_3 => ?_) (fun c_3 => ?_)
        · refine lv_iload_n hx hb dX2_greatest_27 rfl (lv_at hl 1 rfl) ?_
          exact W.iret (v := (nI mm)) hx hb hr (fun t ht hW => ⟨⟨_, (), rfl, (by show _ = _; rw [← hres]; rfl), trivial⟩, hS.F ht⟩) hS.2.2 dX2_greatest_28
        · exact absurd (nI_le (a := 4) (b := i) (by omega) (by omega)) c_3
      | succ k ih =>
        intro i mm H locs ls hi hi1 hres hS hl
        refine lv_iload_n hx hb dX2_greatest_4 rfl (lv_at hl 0 rfl) ?_
        refine lv_iconst (v := 4) hx hb dX2_greatest_5 (by decide) ?_
        refine lv_icmp_ge (tgt := 27) hx hb dX2_greatest_6 (by decide) (fun c_4 => ?_) (fun c_4 => ?_)
        · exact absurd ((nI_leI (a := 4) (b := i) (by omega) (by omega)).mp c_4) (by omega)
        · refine lv_iload_n hx hb dX2_greatest_9 rfl (lv_at hl 2 rfl) ?_
          refine lv_if_le (tgt := 27) hx hb dX2_greatest_10 (by decide) (fun c_5 => ?_) (fun c_5 => ?_)
          · exact absurd c_5 (nI_nle (by omega) (by omega))
          · refine lv_iload_n hx hb dX2_greatest_13 rfl (lv_at hl 1 rfl) ?_
            refine lv_bipush (v := 10) hx hb dX2_greatest_14 (by decide) ?_
            refine lv_imul hx hb dX2_greatest_16 ?_
            rw [show (nI mm) * 10 = nI (mm * 10) from pk_mul _ _]
            refine lv_bipush (v := 9) hx hb dX2_greatest_17 (by decide) ?_
            refine lv_iadd hx hb dX2_greatest_19 ?_
            rw [show (nI (mm * 10)) + 9 = nI ((mm * 10) + 9) from nI_add _ _]
            refine lv_istore_n (lv' := [(2, .int (nI ((mm * 10) + 9))), (3, .int (nI i)), (0, .int (nI b)), (1, .int (nI d0))]) hx hb dX2_greatest_20 rfl hl (by decide) rfl (fun ls hl => ?_)
            refine lv_iinc (v := (nI (i + 1))) (lv' := [(3, .int (nI (i + 1))), (2, .int (nI ((mm * 10) + 9))), (0, .int (nI b)), (1, .int (nI d0))]) hx hb dX2_greatest_21 hl (k := 1) rfl (nI_1 _) (by decide) rfl (fun ls hl => ?_)
            refine lv_goto (tgt := 4) hx hb dX2_greatest_24 (by decide) ?_
            exact ih (i + 1) ((mm * 10) + 9) _ _ ls (by omega) (by omega) hres hS (lv_sub hl [0, 1, 2, 3] rfl)
    exact L4 (4 - d0) d0 b _ _ ls (by omega) hd1 hgr.symm hS (lv_sub hl [0, 1, 2, 3] rfl)
set_option maxHeartbeats 4000000 in
set_option maxRecDepth 100000 in
theorem c_X2_takesDigit (l : Launch) (E : wE) (g : Nat → Nat) (fi : Int32) (nu di : Nat) (d0 : Nat) (hd9 : d0 ≤ 9) (hnu4 : nu ≤ 9999) (hdi4 : di ≤ 4) : Met l yX2_takesDigit wsX2_takesDigit ({ frames := 1, cells := 0, slots := 0, locals := 23 }) (va_Pc [.ref ((g 0)), .int (nI d0)] (wS E 1 g (paP E g (fi, nu, di)))) (va_Qi (fun (r : Int32) (_ : Unit) => r = bI (tkD (fi, nu, di) d0).1) (fun _ t => paP E g (tkD (fi, nu, di) d0).2 (t.heap)) (wF 1 g)) 0 0 (wF 1 g) := by
  refine Met.ofW (cc := cX2_takesDigit) (maxL := 4) (ret := (some .boolean)) (by decide) rfl ?_
  intro p e s m args below meth c s₁ B hml hv
  obtain ⟨rfl, hP, hK, hI⟩ := hv
  have hx := B.exec
  have hb := B.bytes
  have hr := B.returns
  have hts := atoms_spec (ws := wsX2_takesDigit) B.pre
  have hown : s.vm.findClass RX2 = some m.cls := findClass_of_methodNamed B.named
  have hlocks := B.notSynchronized
  have hS : va_S (wF 1 g) s.heap s.heap [] := va_S.rf
  have hin2 : ∀ w ∈ wsX20, w ∈ wsX2_takesDigit := by decide +kernel
  have hA : ∀ k, k < 1 → (wF 1 g) (g k) := wF_in
  have hl := lv_entry ([.ref ((g 0)), .int (nI d0)]) (n := 4) (Nat.le_of_ble_eq_true rfl)
  rw [lg_entry_eq]
  generalize (lg_sl ([.ref ((g 0)), .int (nI d0)]) ++ List.replicate (4 - (lg_sl ([.ref ((g 0)), .int (nI d0)])).length) Slot.unset).toArray = ls at hl ⊢
  have hl : lv_has ls 4 [(0, .ref ((g 0))), (1, .int (nI d0))] := hl
  have hP : wP E 1 g (paF fi nu di) s.heap := hP
  refine lv_aload_n hx hb dX2_takesDigit_0 rfl (lv_at hl 0 rfl) ?_
  refine w_get (C := RX2) (T := TX2) (N := 3) (ci := 2) (v := .int (nI di)) hx hb hts hin2 hown hK hP 0 (by decide) rfl rfl 2 (by decide) (hts (.fieldLink RX2 18 "MixedBlocks$Part" "digits" "I") (List.mem_of_getElem? (i := 1) rfl)) (fun _ h9 => h9) rfl dX2_takesDigit_1 ?_
  refine lv_if_le (tgt := 18) hx hb dX2_takesDigit_4 (by decide) (fun c_1 => ?_) (fun c_1 => ?_)
  · have hdi : ¬ 0 < di := fun z => absurd c_1 (nI_nle z (by omega))
    refine lv_iconst (v := 0) hx hb dX2_takesDigit_18 (by decide) ?_
    refine lv_istore_n (lv' := [(2, .int 0), (0, .ref ((g 0))), (1, .int (nI d0))]) hx hb dX2_takesDigit_19 rfl hl (by decide) rfl (fun ls hl => ?_)
    refine lv_aload_n hx hb dX2_takesDigit_20 rfl (lv_at hl 1 rfl) ?_
    refine w_get (C := RX2) (T := TX2) (N := 3) (ci := 2) (v := .int (nI nu)) hx hb hts hin2 hown hK hP 0 (by decide) rfl rfl 1 (by decide) (hts (.fieldLink RX2 15 "MixedBlocks$Part" "number" "I") (List.mem_of_getElem? (i := 2) rfl)) (fun _ h9 => h9) rfl dX2_takesDigit_21 ?_
    refine lv_bipush (v := 10) hx hb dX2_takesDigit_24 (by decide) ?_
    refine lv_imul hx hb dX2_takesDigit_26 ?_
    rw [show (nI nu) * 10 = nI (nu * 10) from pk_mul _ _]
    refine lv_iload_n hx hb dX2_takesDigit_27 rfl (lv_at hl 2 rfl) ?_
    refine lv_iadd hx hb dX2_takesDigit_28 ?_
    rw [show (nI (nu * 10)) + (nI d0) = nI ((nu * 10) + d0) from nI_add _ _]
    refine lv_istore_n (lv' := [(3, .int (nI ((nu * 10) + d0))), (2, .int 0), (0, .ref ((g 0))), (1, .int (nI d0))]) hx hb dX2_takesDigit_29 rfl hl (by decide) rfl (fun ls hl => ?_)
    refine lv_iload_n hx hb dX2_takesDigit_30 rfl (lv_at hl 1 rfl) ?_
    refine lv_if_ne (tgt := 59) hx hb dX2_takesDigit_31 (by decide) (fun c_2 => ?_) (fun c_2 => ?_)
    · exact absurd rfl c_2
    · refine lv_aload_n hx hb dX2_takesDigit_34 rfl (lv_at hl 2 rfl) ?_
      refine w_get (C := RX2) (T := TX2) (N := 3) (ci := 2) (v := .int (nI di)) hx hb hts hin2 hown hK hP 0 (by decide) rfl rfl 2 (by decide) (hts (.fieldLink RX2 18 "MixedBlocks$Part" "digits" "I") (List.mem_of_getElem? (i := 1) rfl)) (fun _ h9 => h9) rfl dX2_takesDigit_35 ?_
      refine lv_iconst (v := 4) hx hb dX2_takesDigit_38 (by decide) ?_
      refine lv_icmp_ge (tgt := 59) hx hb dX2_takesDigit_39 (by decide) (fun c_3 => ?_) (fun c_3 => ?_)
      · have h4 : 4 ≤ di := (nI_leI (a := 4) (b := di) (by omega) (by omega)).mp c_3
        refine lv_iconst (v := 0) hx hb dX2_takesDigit_59 (by decide) ?_
        have htk := tkD_4 (q := (fi, nu, di)) (d := d0) h4
        exact W.zret (v := 0) hx hb hr rfl (fun t ht hW => ⟨⟨_, (), rfl, (by show _ = _; rw [htk]; rfl), (by show paP E g (tkD (fi, nu, di) d0).2 t.heap; rw [ht, htk]; exact hP)⟩, hS.F ht⟩) hS.2.2 dX2_takesDigit_60
      · have h4 : ¬ 4 ≤ di := fun z => c_3 ((nI_leI (a := 4) (b := di) (by omega) (by omega)).mpr z)
        refine lv_iload_n hx hb dX2_takesDigit_42 rfl (lv_at hl 0 rfl) ?_
        refine lv_aload_n hx hb dX2_takesDigit_43 rfl (lv_at hl 2 rfl) ?_
        refine w_get (C := RX2) (T := TX2) (N := 3) (ci := 2) (v := .int (nI di)) hx hb hts hin2 hown hK hP 0 (by decide) rfl rfl 2 (by decide) (hts (.fieldLink RX2 18 "MixedBlocks$Part" "digits" "I") (List.mem_of_getElem? (i := 1) rfl)) (fun _ h9 => h9) rfl dX2_takesDigit_44 ?_
        refine lv_iconst (v := 1) hx hb dX2_takesDigit_47 (by decide) ?_
        refine lv_iadd hx hb dX2_takesDigit_48 ?_
        rw [show (nI di) + 1 = nI (di + 1) from nI_add _ _]
        refine va_calli (va_runS (As := [.int (nI ((nu * 10) + d0)), .int (nI (di + 1))]) (rest := []) ⟨hx, hb, hml, hown, hts⟩ (c_X2_greatest l ((nu * 10) + d0) (di + 1) (by omega) (by omega) (by omega)) (va_cwS 2 hts gX2_takesDigit_X2_greatest rfl rfl rfl (by decide +kernel) ⟨Nat.le_of_ble_eq_true rfl, Nat.le_of_ble_eq_true rfl⟩) ⟨wU_blind, fun U hU hW => ⟨rfl, trivial⟩⟩ rfl rfl hl.1 rfl (lv_room (Nat.le_of_ble_eq_true rfl)) dX2_takesDigit_49 ⟨Nat.zero_le _, Nat.zero_le _⟩) hS (fun q _ h => h.elim) (fun q h => h.elim) (fun r_4 uu t H_4 locs_4 ht hvm hw hB hz1 hk1 hS => ?_)
        have hP := hP.same hk1
        obtain rfl : r_4 = (nI (grN ((nu * 10) + d0) (di + 1))) := hw
        refine lv_aload_n hx hb dX2_takesDigit_52 rfl (lv_at hl 2 rfl) ?_
        refine w_get (C := RX2) (T := TX2) (N := 3) (ci := 2) (v := .int fi) hx hb hts hin2 hown hK hP 0 (by decide) rfl rfl 0 (by decide) (hts (.fieldLink RX2 9 "MixedBlocks$Part" "first" "I") (List.mem_of_getElem? (i := 3) rfl)) (fun _ h9 => h9) rfl dX2_takesDigit_53 ?_
        refine lv_icmp_ge (tgt := 61) hx hb dX2_takesDigit_56 (by decide) (fun c_5 => ?_) (fun c_5 => ?_)
        · refine lv_aload_n hx hb dX2_takesDigit_61 rfl (lv_at hl 2 rfl) ?_
          refine lv_iload_n hx hb dX2_takesDigit_62 rfl (lv_at hl 0 rfl) ?_
          refine w_put (C := RX2) (T := TX2) (N := 3) (ci := 2) (v := .int (nI ((nu * 10) + d0))) (ty := .int) hx hb hts hin2 tyX2 tyX2_ok nmX2 hown hK hP hI hA hS 0 (by decide) rfl rfl 1 (by decide) (hts (.fieldLink RX2 15 "MixedBlocks$Part" "number" "I") (List.mem_of_getElem? (i := 2) rfl)) (fun _ h9 => h9) rfl (by decide +kernel) rfl rfl (Nat.le_of_ble_eq_true rfl) dX2_takesDigit_63 (paF fi ((nu * 10) + d0) di) rfl pa_ne (fun H_6 locs_6 hP hS => ?_)
          refine lv_aload_n hx hb dX2_takesDigit_66 rfl (lv_at hl 2 rfl) ?_
          refine lv_dup hx hb dX2_takesDigit_67 rfl ?_
          refine w_get (C := RX2) (T := TX2) (N := 3) (ci := 2) (v := .int (nI di)) hx hb hts hin2 hown hK hP 0 (by decide) rfl rfl 2 (by decide) (hts (.fieldLink RX2 18 "MixedBlocks$Part" "digits" "I") (List.mem_of_getElem? (i := 1) rfl)) (fun _ h9 => h9) rfl dX2_takesDigit_68 ?_
          refine lv_iconst (v := 1) hx hb dX2_takesDigit_71 (by decide) ?_
          refine lv_iadd hx hb dX2_takesDigit_72 ?_
          rw [show (nI di) + 1 = nI (di + 1) from nI_add _ _]
          refine w_put (C := RX2) (T := TX2) (N := 3) (ci := 2) (v := .int (nI (di + 1))) (ty := .int) hx hb hts hin2 tyX2 tyX2_ok nmX2 hown hK hP hI hA hS 0 (by decide) rfl rfl 2 (by decide) (hts (.fieldLink RX2 18 "MixedBlocks$Part" "digits" "I") (List.mem_of_getElem? (i := 1) rfl)) (fun _ h9 => h9) rfl (by decide +kernel) rfl rfl (Nat.le_of_ble_eq_true rfl) dX2_takesDigit_73 (paF fi ((nu * 10) + d0) (di + 1)) rfl pa_ne (fun H_7 locs_7 hP hS => ?_)
          refine lv_iconst (v := 1) hx hb dX2_takesDigit_76 (by decide) ?_
          have htk := tkD_y (q := (fi, nu, di)) (d := d0) (fun z => hdi z.1) h4 c_5
          exact W.zret (v := 1) hx hb hr rfl (fun t ht hW => ⟨⟨_, (), rfl, (by show _ = _; rw [htk]; rfl), (by show paP E g (tkD (fi, nu, di) d0).2 t.heap; rw [ht, htk]; exact hP)⟩, hS.F ht⟩) hS.2.2 dX2_takesDigit_77
        · refine lv_iconst (v := 0) hx hb dX2_takesDigit_59 (by decide) ?_
          have htk := tkD_g (q := (fi, nu, di)) (d := d0) c_5
          exact W.zret (v := 0) hx hb hr rfl (fun t ht hW => ⟨⟨_, (), rfl, (by show _ = _; rw [htk]; rfl), (by show paP E g (tkD (fi, nu, di) d0).2 t.heap; rw [ht, htk]; exact hP)⟩, hS.F ht⟩) hS.2.2 dX2_takesDigit_60
  · have hdi : 0 < di := Nat.pos_of_ne_zero (fun z => c_1 (by rw [z]; exact Int32.le_refl 0))
    refine lv_aload_n hx hb dX2_takesDigit_7 rfl (lv_at hl 0 rfl) ?_
    refine w_get (C := RX2) (T := TX2) (N := 3) (ci := 2) (v := .int (nI nu)) hx hb hts hin2 hown hK hP 0 (by decide) rfl rfl 1 (by decide) (hts (.fieldLink RX2 15 "MixedBlocks$Part" "number" "I") (List.mem_of_getElem? (i := 2) rfl)) (fun _ h9 => h9) rfl dX2_takesDigit_8 ?_
    refine lv_if_ne (tgt := 18) hx hb dX2_takesDigit_11 (by decide) (fun c_8 => ?_) (fun c_8 => ?_)
    · have hnu : ¬ nu = 0 := fun z => c_8 (by rw [z]; rfl)
      refine lv_iconst (v := 0) hx hb dX2_takesDigit_18 (by decide) ?_
      refine lv_istore_n (lv' := [(2, .int 0), (0, .ref ((g 0))), (1, .int (nI d0))]) hx hb dX2_takesDigit_19 rfl hl (by decide) rfl (fun ls hl => ?_)
      refine lv_aload_n hx hb dX2_takesDigit_20 rfl (lv_at hl 1 rfl) ?_
      refine w_get (C := RX2) (T := TX2) (N := 3) (ci := 2) (v := .int (nI nu)) hx hb hts hin2 hown hK hP 0 (by decide) rfl rfl 1 (by decide) (hts (.fieldLink RX2 15 "MixedBlocks$Part" "number" "I") (List.mem_of_getElem? (i := 2) rfl)) (fun _ h9 => h9) rfl dX2_takesDigit_21 ?_
      refine lv_bipush (v := 10) hx hb dX2_takesDigit_24 (by decide) ?_
      refine lv_imul hx hb dX2_takesDigit_26 ?_
      rw [show (nI nu) * 10 = nI (nu * 10) from pk_mul _ _]
      refine lv_iload_n hx hb dX2_takesDigit_27 rfl (lv_at hl 2 rfl) ?_
      refine lv_iadd hx hb dX2_takesDigit_28 ?_
      rw [show (nI (nu * 10)) + (nI d0) = nI ((nu * 10) + d0) from nI_add _ _]
      refine lv_istore_n (lv' := [(3, .int (nI ((nu * 10) + d0))), (2, .int 0), (0, .ref ((g 0))), (1, .int (nI d0))]) hx hb dX2_takesDigit_29 rfl hl (by decide) rfl (fun ls hl => ?_)
      refine lv_iload_n hx hb dX2_takesDigit_30 rfl (lv_at hl 1 rfl) ?_
      refine lv_if_ne (tgt := 59) hx hb dX2_takesDigit_31 (by decide) (fun c_9 => ?_) (fun c_9 => ?_)
      · exact absurd rfl c_9
      · refine lv_aload_n hx hb dX2_takesDigit_34 rfl (lv_at hl 2 rfl) ?_
        refine w_get (C := RX2) (T := TX2) (N := 3) (ci := 2) (v := .int (nI di)) hx hb hts hin2 hown hK hP 0 (by decide) rfl rfl 2 (by decide) (hts (.fieldLink RX2 18 "MixedBlocks$Part" "digits" "I") (List.mem_of_getElem? (i := 1) rfl)) (fun _ h9 => h9) rfl dX2_takesDigit_35 ?_
        refine lv_iconst (v := 4) hx hb dX2_takesDigit_38 (by decide) ?_
        refine lv_icmp_ge (tgt := 59) hx hb dX2_takesDigit_39 (by decide) (fun c_10 => ?_) (fun c_10 => ?_)
        · have h4 : 4 ≤ di := (nI_leI (a := 4) (b := di) (by omega) (by omega)).mp c_10
          refine lv_iconst (v := 0) hx hb dX2_takesDigit_59 (by decide) ?_
          have htk := tkD_4 (q := (fi, nu, di)) (d := d0) h4
          exact W.zret (v := 0) hx hb hr rfl (fun t ht hW => ⟨⟨_, (), rfl, (by show _ = _; rw [htk]; rfl), (by show paP E g (tkD (fi, nu, di) d0).2 t.heap; rw [ht, htk]; exact hP)⟩, hS.F ht⟩) hS.2.2 dX2_takesDigit_60
        · have h4 : ¬ 4 ≤ di := fun z => c_10 ((nI_leI (a := 4) (b := di) (by omega) (by omega)).mpr z)
          refine lv_iload_n hx hb dX2_takesDigit_42 rfl (lv_at hl 0 rfl) ?_
          refine lv_aload_n hx hb dX2_takesDigit_43 rfl (lv_at hl 2 rfl) ?_
          refine w_get (C := RX2) (T := TX2) (N := 3) (ci := 2) (v := .int (nI di)) hx hb hts hin2 hown hK hP 0 (by decide) rfl rfl 2 (by decide) (hts (.fieldLink RX2 18 "MixedBlocks$Part" "digits" "I") (List.mem_of_getElem? (i := 1) rfl)) (fun _ h9 => h9) rfl dX2_takesDigit_44 ?_
          refine lv_iconst (v := 1) hx hb dX2_takesDigit_47 (by decide) ?_
          refine lv_iadd hx hb dX2_takesDigit_48 ?_
          rw [show (nI di) + 1 = nI (di + 1) from nI_add _ _]
          refine va_calli (va_runS (As := [.int (nI ((nu * 10) + d0)), .int (nI (di + 1))]) (rest := []) ⟨hx, hb, hml, hown, hts⟩ (c_X2_greatest l ((nu * 10) + d0) (di + 1) (by omega) (by omega) (by omega)) (va_cwS 2 hts gX2_takesDigit_X2_greatest rfl rfl rfl (by decide +kernel) ⟨Nat.le_of_ble_eq_true rfl, Nat.le_of_ble_eq_true rfl⟩) ⟨wU_blind, fun U hU hW => ⟨rfl, trivial⟩⟩ rfl rfl hl.1 rfl (lv_room (Nat.le_of_ble_eq_true rfl)) dX2_takesDigit_49 ⟨Nat.zero_le _, Nat.zero_le _⟩) hS (fun q _ h => h.elim) (fun q h => h.elim) (fun r_11 uu t H_11 locs_11 ht hvm hw hB hz1 hk1 hS => ?_)
          have hP := hP.same hk1
          obtain rfl : r_11 = (nI (grN ((nu * 10) + d0) (di + 1))) := hw
          refine lv_aload_n hx hb dX2_takesDigit_52 rfl (lv_at hl 2 rfl) ?_
          refine w_get (C := RX2) (T := TX2) (N := 3) (ci := 2) (v := .int fi) hx hb hts hin2 hown hK hP 0 (by decide) rfl rfl 0 (by decide) (hts (.fieldLink RX2 9 "MixedBlocks$Part" "first" "I") (List.mem_of_getElem? (i := 3) rfl)) (fun _ h9 => h9) rfl dX2_takesDigit_53 ?_
          refine lv_icmp_ge (tgt := 61) hx hb dX2_takesDigit_56 (by decide) (fun c_12 => ?_) (fun c_12 => ?_)
          · refine lv_aload_n hx hb dX2_takesDigit_61 rfl (lv_at hl 2 rfl) ?_
            refine lv_iload_n hx hb dX2_takesDigit_62 rfl (lv_at hl 0 rfl) ?_
            refine w_put (C := RX2) (T := TX2) (N := 3) (ci := 2) (v := .int (nI ((nu * 10) + d0))) (ty := .int) hx hb hts hin2 tyX2 tyX2_ok nmX2 hown hK hP hI hA hS 0 (by decide) rfl rfl 1 (by decide) (hts (.fieldLink RX2 15 "MixedBlocks$Part" "number" "I") (List.mem_of_getElem? (i := 2) rfl)) (fun _ h9 => h9) rfl (by decide +kernel) rfl rfl (Nat.le_of_ble_eq_true rfl) dX2_takesDigit_63 (paF fi ((nu * 10) + d0) di) rfl pa_ne (fun H_13 locs_13 hP hS => ?_)
            refine lv_aload_n hx hb dX2_takesDigit_66 rfl (lv_at hl 2 rfl) ?_
            refine lv_dup hx hb dX2_takesDigit_67 rfl ?_
            refine w_get (C := RX2) (T := TX2) (N := 3) (ci := 2) (v := .int (nI di)) hx hb hts hin2 hown hK hP 0 (by decide) rfl rfl 2 (by decide) (hts (.fieldLink RX2 18 "MixedBlocks$Part" "digits" "I") (List.mem_of_getElem? (i := 1) rfl)) (fun _ h9 => h9) rfl dX2_takesDigit_68 ?_
            refine lv_iconst (v := 1) hx hb dX2_takesDigit_71 (by decide) ?_
            refine lv_iadd hx hb dX2_takesDigit_72 ?_
            rw [show (nI di) + 1 = nI (di + 1) from nI_add _ _]
            refine w_put (C := RX2) (T := TX2) (N := 3) (ci := 2) (v := .int (nI (di + 1))) (ty := .int) hx hb hts hin2 tyX2 tyX2_ok nmX2 hown hK hP hI hA hS 0 (by decide) rfl rfl 2 (by decide) (hts (.fieldLink RX2 18 "MixedBlocks$Part" "digits" "I") (List.mem_of_getElem? (i := 1) rfl)) (fun _ h9 => h9) rfl (by decide +kernel) rfl rfl (Nat.le_of_ble_eq_true rfl) dX2_takesDigit_73 (paF fi ((nu * 10) + d0) (di + 1)) rfl pa_ne (fun H_14 locs_14 hP hS => ?_)
            refine lv_iconst (v := 1) hx hb dX2_takesDigit_76 (by decide) ?_
            have htk := tkD_y (q := (fi, nu, di)) (d := d0) (fun z => hnu z.2) h4 c_12
            exact W.zret (v := 1) hx hb hr rfl (fun t ht hW => ⟨⟨_, (), rfl, (by show _ = _; rw [htk]; rfl), (by show paP E g (tkD (fi, nu, di) d0).2 t.heap; rw [ht, htk]; exact hP)⟩, hS.F ht⟩) hS.2.2 dX2_takesDigit_77
          · refine lv_iconst (v := 0) hx hb dX2_takesDigit_59 (by decide) ?_
            have htk := tkD_g (q := (fi, nu, di)) (d := d0) c_12
            exact W.zret (v := 0) hx hb hr rfl (fun t ht hW => ⟨⟨_, (), rfl, (by show _ = _; rw [htk]; rfl), (by show paP E g (tkD (fi, nu, di) d0).2 t.heap; rw [ht, htk]; exact hP)⟩, hS.F ht⟩) hS.2.2 dX2_takesDigit_60
    · have hnu : nu = 0 := ((nI_eq (a := nu) (b := 0) (by omega) (by omega)).mp c_8)
      refine lv_iconst (v := 1) hx hb dX2_takesDigit_14 (by decide) ?_
      refine lv_goto (tgt := 19) hx hb dX2_takesDigit_15 (by decide) ?_
      refine lv_istore_n (lv' := [(2, .int 1), (0, .ref ((g 0))), (1, .int (nI d0))]) hx hb dX2_takesDigit_19 rfl hl (by decide) rfl (fun ls hl => ?_)
      refine lv_aload_n hx hb dX2_takesDigit_20 rfl (lv_at hl 1 rfl) ?_
      refine w_get (C := RX2) (T := TX2) (N := 3) (ci := 2) (v := .int (nI nu)) hx hb hts hin2 hown hK hP 0 (by decide) rfl rfl 1 (by decide) (hts (.fieldLink RX2 15 "MixedBlocks$Part" "number" "I") (List.mem_of_getElem? (i := 2) rfl)) (fun _ h9 => h9) rfl dX2_takesDigit_21 ?_
      refine lv_bipush (v := 10) hx hb dX2_takesDigit_24 (by decide) ?_
      refine lv_imul hx hb dX2_takesDigit_26 ?_
      rw [show (nI nu) * 10 = nI (nu * 10) from pk_mul _ _]
      refine lv_iload_n hx hb dX2_takesDigit_27 rfl (lv_at hl 2 rfl) ?_
      refine lv_iadd hx hb dX2_takesDigit_28 ?_
      rw [show (nI (nu * 10)) + (nI d0) = nI ((nu * 10) + d0) from nI_add _ _]
      refine lv_istore_n (lv' := [(3, .int (nI ((nu * 10) + d0))), (2, .int 1), (0, .ref ((g 0))), (1, .int (nI d0))]) hx hb dX2_takesDigit_29 rfl hl (by decide) rfl (fun ls hl => ?_)
      refine lv_iload_n hx hb dX2_takesDigit_30 rfl (lv_at hl 1 rfl) ?_
      refine lv_if_ne (tgt := 59) hx hb dX2_takesDigit_31 (by decide) (fun c_15 => ?_) (fun c_15 => ?_)
      · refine lv_iconst (v := 0) hx hb dX2_takesDigit_59 (by decide) ?_
        have htk := tkD_lz (q := (fi, nu, di)) (d := d0) ⟨hdi, hnu⟩
        exact W.zret (v := 0) hx hb hr rfl (fun t ht hW => ⟨⟨_, (), rfl, (by show _ = _; rw [htk]; rfl), (by show paP E g (tkD (fi, nu, di) d0).2 t.heap; rw [ht, htk]; exact hP)⟩, hS.F ht⟩) hS.2.2 dX2_takesDigit_60
      · exact absurd c_15 (by decide)
set_option maxHeartbeats 4000000 in
set_option maxRecDepth 100000 in
theorem c_X2_isComplete (l : Launch) (E : wE) (g : Nat → Nat) (fi : Int32) (nu di : Nat) (hnu4 : nu ≤ 9999) (hdi4 : di ≤ 4) : Met l yX2_isComplete wsX2_isComplete ({ frames := 0, cells := 0, slots := 0, locals := 0 }) (va_Pc [.ref ((g 0))] (wS E 1 g (paP E g (fi, nu, di)))) (va_Qi (fun (r : Int32) (_ : Unit) => r = bI (cmI (fi, nu, di))) (fun _ t => True) wN) 0 0 wN := by
  refine Met.ofW (cc := cX2_isComplete) (maxL := 1) (ret := (some .boolean)) (by decide) rfl ?_
  intro p e s m args below meth c s₁ B hml hv
  obtain ⟨rfl, hP, hK, hI⟩ := hv
  have hx := B.exec
  have hb := B.bytes
  have hr := B.returns
  have hts := atoms_spec (ws := wsX2_isComplete) B.pre
  have hown : s.vm.findClass RX2 = some m.cls := findClass_of_methodNamed B.named
  have hlocks := B.notSynchronized
  have hS : va_S wN s.heap s.heap [] := va_S.rf
  have hin2 : ∀ w ∈ wsX20, w ∈ wsX2_isComplete := by decide +kernel
  have hl := lv_entry ([.ref ((g 0))]) (n := 1) (Nat.le_of_ble_eq_true rfl)
  rw [lg_entry_eq]
  generalize (lg_sl ([.ref ((g 0))]) ++ List.replicate (1 - (lg_sl ([.ref ((g 0))])).length) Slot.unset).toArray = ls at hl ⊢
  have hl : lv_has ls 1 [(0, .ref ((g 0)))] := hl
  have hP : wP E 1 g (paF fi nu di) s.heap := hP
  refine lv_aload_n hx hb dX2_isComplete_0 rfl (lv_at hl 0 rfl) ?_
  refine w_get (C := RX2) (T := TX2) (N := 3) (ci := 2) (v := .int (nI di)) hx hb hts hin2 hown hK hP 0 (by decide) rfl rfl 2 (by decide) (hts (.fieldLink RX2 18 "MixedBlocks$Part" "digits" "I") (List.mem_of_getElem? (i := 1) rfl)) (fun _ h9 => h9) rfl dX2_isComplete_1 ?_
  refine lv_if_le (tgt := 22) hx hb dX2_isComplete_4 (by decide) (fun c_1 => ?_) (fun c_1 => ?_)
  · refine lv_iconst (v := 0) hx hb dX2_isComplete_22 (by decide) ?_
    exact W.zret (v := 0) hx hb hr rfl (fun t ht hW => ⟨⟨_, (), rfl, (bI_ne (c := 0 < di ∧ ¬ nI nu < fi) (fun z => absurd c_1 (nI_nle z.1 (by omega)))), trivial⟩, hS.F ht⟩) hS.2.2 dX2_isComplete_23
  · refine lv_aload_n hx hb dX2_isComplete_7 rfl (lv_at hl 0 rfl) ?_
    refine w_get (C := RX2) (T := TX2) (N := 3) (ci := 2) (v := .int (nI nu)) hx hb hts hin2 hown hK hP 0 (by decide) rfl rfl 1 (by decide) (hts (.fieldLink RX2 15 "MixedBlocks$Part" "number" "I") (List.mem_of_getElem? (i := 2) rfl)) (fun _ h9 => h9) rfl dX2_isComplete_8 ?_
    refine lv_aload_n hx hb dX2_isComplete_11 rfl (lv_at hl 0 rfl) ?_
    refine w_get (C := RX2) (T := TX2) (N := 3) (ci := 2) (v := .int fi) hx hb hts hin2 hown hK hP 0 (by decide) rfl rfl 0 (by decide) (hts (.fieldLink RX2 9 "MixedBlocks$Part" "first" "I") (List.mem_of_getElem? (i := 3) rfl)) (fun _ h9 => h9) rfl dX2_isComplete_12 ?_
    refine lv_icmp_lt (tgt := 22) hx hb dX2_isComplete_15 (by decide) (fun c_2 => ?_) (fun c_2 => ?_)
    · refine lv_iconst (v := 0) hx hb dX2_isComplete_22 (by decide) ?_
      exact W.zret (v := 0) hx hb hr rfl (fun t ht hW => ⟨⟨_, (), rfl, (bI_ne (c := 0 < di ∧ ¬ nI nu < fi) (fun z => z.2 c_2)), trivial⟩, hS.F ht⟩) hS.2.2 dX2_isComplete_23
    · refine lv_iconst (v := 1) hx hb dX2_isComplete_18 (by decide) ?_
      refine lv_goto (tgt := 23) hx hb dX2_isComplete_19 (by decide) ?_
      exact W.zret (v := 1) hx hb hr rfl (fun t ht hW => ⟨⟨_, (), rfl, (bI_eq (c := 0 < di ∧ ¬ nI nu < fi) ⟨Nat.pos_of_ne_zero (fun z => c_1 (by rw [z]; exact Int32.le_refl 0)), c_2⟩), trivial⟩, hS.F ht⟩) hS.2.2 dX2_isComplete_23
set_option maxHeartbeats 4000000 in
set_option maxRecDepth 100000 in
theorem c_X2_firstMix (l : Launch) (E : wE) (g : Nat → Nat) (fi : Int32) (nu di : Nat)  : Met l yX2_firstMix wsX2_firstMix ({ frames := 0, cells := 0, slots := 0, locals := 0 }) (va_Pc [.ref ((g 0))] (wS E 1 g (paP E g (fi, nu, di)))) (va_Qi (fun (r : Int32) (_ : Unit) => r = (if fi = -1 then nI nu else fi)) (fun _ t => True) wN) 0 0 wN := by
  refine Met.ofW (cc := cX2_firstMix) (maxL := 1) (ret := (some .int)) (by decide) rfl ?_
  intro p e s m args below meth c s₁ B hml hv
  obtain ⟨rfl, hP, hK, hI⟩ := hv
  have hx := B.exec
  have hb := B.bytes
  have hr := B.returns
  have hts := atoms_spec (ws := wsX2_firstMix) B.pre
  have hown : s.vm.findClass RX2 = some m.cls := findClass_of_methodNamed B.named
  have hlocks := B.notSynchronized
  have hS : va_S wN s.heap s.heap [] := va_S.rf
  have hin2 : ∀ w ∈ wsX20, w ∈ wsX2_firstMix := by decide +kernel
  have hl := lv_entry ([.ref ((g 0))]) (n := 1) (Nat.le_of_ble_eq_true rfl)
  rw [lg_entry_eq]
  generalize (lg_sl ([.ref ((g 0))]) ++ List.replicate (1 - (lg_sl ([.ref ((g 0))])).length) Slot.unset).toArray = ls at hl ⊢
  have hl : lv_has ls 1 [(0, .ref ((g 0)))] := hl
  have hP : wP E 1 g (paF fi nu di) s.heap := hP
  refine lv_aload_n hx hb dX2_firstMix_0 rfl (lv_at hl 0 rfl) ?_
  refine w_get (C := RX2) (T := TX2) (N := 3) (ci := 2) (v := .int fi) hx hb hts hin2 hown hK hP 0 (by decide) rfl rfl 0 (by decide) (hts (.fieldLink RX2 9 "MixedBlocks$Part" "first" "I") (List.mem_of_getElem? (i := 1) rfl)) (fun _ h9 => h9) rfl dX2_firstMix_1 ?_
  refine lv_iconst (v := (-1)) hx hb dX2_firstMix_4 (by decide) ?_
  refine lv_icmp_ne (tgt := 15) hx hb dX2_firstMix_5 (by decide) (fun c_1 => ?_) (fun c_1 => ?_)
  · refine lv_aload_n hx hb dX2_firstMix_15 rfl (lv_at hl 0 rfl) ?_
    refine w_get (C := RX2) (T := TX2) (N := 3) (ci := 2) (v := .int fi) hx hb hts hin2 hown hK hP 0 (by decide) rfl rfl 0 (by decide) (hts (.fieldLink RX2 9 "MixedBlocks$Part" "first" "I") (List.mem_of_getElem? (i := 1) rfl)) (fun _ h9 => h9) rfl dX2_firstMix_16 ?_
    exact W.iret (v := fi) hx hb hr (fun t ht hW => ⟨⟨_, (), rfl, (by first | rfl | (simp only [if_neg c_1]; done) | (simp only [if_neg c_1]; rfl)), trivial⟩, hS.F ht⟩) hS.2.2 dX2_firstMix_19
  · refine lv_aload_n hx hb dX2_firstMix_8 rfl (lv_at hl 0 rfl) ?_
    refine w_get (C := RX2) (T := TX2) (N := 3) (ci := 2) (v := .int (nI nu)) hx hb hts hin2 hown hK hP 0 (by decide) rfl rfl 1 (by decide) (hts (.fieldLink RX2 15 "MixedBlocks$Part" "number" "I") (List.mem_of_getElem? (i := 2) rfl)) (fun _ h9 => h9) rfl dX2_firstMix_9 ?_
    refine lv_goto (tgt := 19) hx hb dX2_firstMix_12 (by decide) ?_
    exact W.iret (v := (nI nu)) hx hb hr (fun t ht hW => ⟨⟨_, (), rfl, (by first | rfl | (simp only [if_pos c_1]; done) | (simp only [if_pos c_1]; rfl)), trivial⟩, hS.F ht⟩) hS.2.2 dX2_firstMix_19
set_option maxHeartbeats 4000000 in
set_option maxRecDepth 100000 in
theorem c_X2_lastMix (l : Launch) (E : wE) (g : Nat → Nat) (fi : Int32) (nu di : Nat)  : Met l yX2_lastMix wsX2_lastMix ({ frames := 0, cells := 0, slots := 0, locals := 0 }) (va_Pc [.ref ((g 0))] (wS E 1 g (paP E g (fi, nu, di)))) (va_Qi (fun (r : Int32) (_ : Unit) => r = nI nu) (fun _ t => True) wN) 0 0 wN := by
  refine Met.ofW (cc := cX2_lastMix) (maxL := 1) (ret := (some .int)) (by decide) rfl ?_
  intro p e s m args below meth c s₁ B hml hv
  obtain ⟨rfl, hP, hK, hI⟩ := hv
  have hx := B.exec
  have hb := B.bytes
  have hr := B.returns
  have hts := atoms_spec (ws := wsX2_lastMix) B.pre
  have hown : s.vm.findClass RX2 = some m.cls := findClass_of_methodNamed B.named
  have hlocks := B.notSynchronized
  have hS : va_S wN s.heap s.heap [] := va_S.rf
  have hin2 : ∀ w ∈ wsX20, w ∈ wsX2_lastMix := by decide +kernel
  have hl := lv_entry ([.ref ((g 0))]) (n := 1) (Nat.le_of_ble_eq_true rfl)
  rw [lg_entry_eq]
  generalize (lg_sl ([.ref ((g 0))]) ++ List.replicate (1 - (lg_sl ([.ref ((g 0))])).length) Slot.unset).toArray = ls at hl ⊢
  have hl : lv_has ls 1 [(0, .ref ((g 0)))] := hl
  have hP : wP E 1 g (paF fi nu di) s.heap := hP
  refine lv_aload_n hx hb dX2_lastMix_0 rfl (lv_at hl 0 rfl) ?_
  refine w_get (C := RX2) (T := TX2) (N := 3) (ci := 2) (v := .int (nI nu)) hx hb hts hin2 hown hK hP 0 (by decide) rfl rfl 1 (by decide) (hts (.fieldLink RX2 15 "MixedBlocks$Part" "number" "I") (List.mem_of_getElem? (i := 1) rfl)) (fun _ h9 => h9) rfl dX2_lastMix_1 ?_
  exact W.iret (v := (nI nu)) hx hb hr (fun t ht hW => ⟨⟨_, (), rfl, rfl, trivial⟩, hS.F ht⟩) hS.2.2 dX2_lastMix_4
set_option maxHeartbeats 4000000 in
set_option maxRecDepth 100000 in
theorem c_X2_takes (l : Launch) (E : wE) (g : Nat → Nat) (fi : Int32) (nu di : Nat) (kc : Nat) (hkc : kc ≤ 126) (hnu4 : nu ≤ 9999) (hdi4 : di ≤ 4) : Met l yX2_takes wsX2_takes ({ frames := 2, cells := 0, slots := 0, locals := 46 }) (va_Pc [.ref ((g 0)), .int (nI kc)] (wS E 1 g (paP E g (fi, nu, di)))) (va_Qi (fun (r : Int32) (_ : Unit) => r = bI (tkS (fi, nu, di) kc).1) (fun _ t => paP E g (tkS (fi, nu, di) kc).2 (t.heap)) (wF 1 g)) 0 0 (wF 1 g) := by
  refine Met.ofW (cc := cX2_takes) (maxL := 2) (ret := (some .boolean)) (by decide) rfl ?_
  intro p e s m args below meth c s₁ B hml hv
  obtain ⟨rfl, hP, hK, hI⟩ := hv
  have hx := B.exec
  have hb := B.bytes
  have hr := B.returns
  have hts := atoms_spec (ws := wsX2_takes) B.pre
  have hown : s.vm.findClass RX2 = some m.cls := findClass_of_methodNamed B.named
  have hlocks := B.notSynchronized
  have hS : va_S (wF 1 g) s.heap s.heap [] := va_S.rf
  have hin2 : ∀ w ∈ wsX20, w ∈ wsX2_takes := by decide +kernel
  have hA : ∀ k, k < 1 → (wF 1 g) (g k) := wF_in
  have hl := lv_entry ([.ref ((g 0)), .int (nI kc)]) (n := 2) (Nat.le_of_ble_eq_true rfl)
  rw [lg_entry_eq]
  generalize (lg_sl ([.ref ((g 0)), .int (nI kc)]) ++ List.replicate (2 - (lg_sl ([.ref ((g 0)), .int (nI kc)])).length) Slot.unset).toArray = ls at hl ⊢
  have hl : lv_has ls 2 [(0, .ref ((g 0))), (1, .int (nI kc))] := hl
  have hP : wP E 1 g (paF fi nu di) s.heap := hP
  refine lv_iload_n hx hb dX2_takes_0 rfl (lv_at hl 1 rfl) ?_
  refine lv_bipush (v := 48) hx hb dX2_takes_1 (by decide) ?_
  refine lv_icmp_lt (tgt := 21) hx hb dX2_takes_3 (by decide) (fun c_1 => ?_) (fun c_1 => ?_)
  · have h48 : ¬ 48 ≤ kc := fun z => absurd c_1 (nI_nlt (a := kc) (b := 48) z (by omega))
    refine lv_iload_n hx hb dX2_takes_21 rfl (lv_at hl 1 rfl) ?_
    refine lv_bipush (v := 45) hx hb dX2_takes_22 (by decide) ?_
    refine lv_icmp_ne (tgt := 56) hx hb dX2_takes_24 (by decide) (fun c_2 => ?_) (fun c_2 => ?_)
    · have h45 : ¬ kc = 45 := fun z => c_2 (by rw [z]; rfl)
      refine lv_iload_n hx hb dX2_takes_56 rfl (lv_at hl 1 rfl) ?_
      refine lv_bipush (v := 44) hx hb dX2_takes_57 (by decide) ?_
      refine lv_icmp_ne (tgt := 75) hx hb dX2_takes_59 (by decide) (fun c_3 => ?_) (fun c_3 => ?_)
      · have h44 : ¬ kc = 44 := fun z => c_3 (by rw [z]; rfl)
        refine lv_iconst (v := 0) hx hb dX2_takes_75 (by decide) ?_
        have htk := tkS_o (q := (fi, nu, di)) (k := kc) (fun z => h48 z.1) h45 h44
        exact W.zret (v := 0) hx hb hr rfl (fun t ht hW => ⟨⟨_, (), rfl, (by show _ = _; rw [htk]; rfl), (by show paP E g (tkS (fi, nu, di) kc).2 t.heap; rw [ht, htk]; exact hP)⟩, hS.F ht⟩) hS.2.2 dX2_takes_76
      · have h44 : kc = 44 := (nI_eq (a := kc) (b := 44) (by omega) (by omega)).mp c_3
        refine lv_aload_n hx hb dX2_takes_62 rfl (lv_at hl 0 rfl) ?_
        refine va_calli (va_runV (As := []) (rest := []) ⟨hx, hb, hml, hown, hts⟩ (c_X2_isComplete l E g fi nu di hnu4 hdi4) (cwV 0 hts gX2_takes_X2_isComplete rfl rfl rfl (by decide +kernel) ⟨Nat.le_of_ble_eq_true rfl, Nat.le_of_ble_eq_true rfl⟩) ⟨wS.blind, (w_recv hK hP 0 (by decide) rfl (ci := 2) rfl), fun U hU hW => wS.go hP hK hI hU hW⟩ rfl rfl hl.1 rfl (lv_room (Nat.le_of_ble_eq_true rfl)) dX2_takes_63 ⟨Nat.zero_le _, Nat.zero_le _⟩) hS (fun q _ h => h.elim) (fun q h => h.elim) (fun r_4 uu t H_4 locs_4 ht hvm hw hB hz1 hk1 hS => ?_)
        have hP := hP.same hk1
        obtain rfl : r_4 = (bI (cmI (fi, nu, di))) := hw
        refine lv_if_eq (tgt := 75) hx hb dX2_takes_66 (by decide) (fun c_5 => ?_) (fun c_5 => ?_)
        · refine lv_iconst (v := 0) hx hb dX2_takes_75 (by decide) ?_
          have htk := tkS_cn (q := (fi, nu, di)) (k := kc) h44 (bI_0 c_5)
          exact W.zret (v := 0) hx hb hr rfl (fun t ht hW => ⟨⟨_, (), rfl, (by show _ = _; rw [htk]; rfl), (by show paP E g (tkS (fi, nu, di) kc).2 t.heap; rw [ht, htk]; exact hP)⟩, hS.F ht⟩) hS.2.2 dX2_takes_76
        · refine lv_aload_n hx hb dX2_takes_69 rfl (lv_at hl 0 rfl) ?_
          refine va_callv (va_runV (As := []) (rest := []) ⟨hx, hb, hml, hown, hts⟩ (c_X2_begin l E g fi nu di ) (cwV 0 hts gX2_takes_X2_begin rfl rfl rfl (by decide +kernel) ⟨Nat.le_of_ble_eq_true rfl, Nat.le_of_ble_eq_true rfl⟩) ⟨wS.blind, (w_recv hK hP 0 (by decide) rfl (ci := 2) rfl), fun U hU hW => wS.go hP hK hI hU hW⟩ rfl rfl hl.1 rfl (lv_room (Nat.le_of_ble_eq_true rfl)) dX2_takes_70 ⟨Nat.zero_le _, Nat.zero_le _⟩) hS (fun q _ h => h) (fun q h => h) (fun uu t H_6 locs_6 ht hvm hw hB hz1 hk1 hS => ?_)
          rw [ht] at hB
          have hP : wP E 1 g (paF (-1) 0 0) H_6 := hB
          refine lv_iconst (v := 1) hx hb dX2_takes_73 (by decide) ?_
          have htk := tkS_cy (q := (fi, nu, di)) (k := kc) h44 (bI_1 c_5)
          exact W.zret (v := 1) hx hb hr rfl (fun t ht hW => ⟨⟨_, (), rfl, (by show _ = _; rw [htk]; rfl), (by show paP E g (tkS (fi, nu, di) kc).2 t.heap; rw [ht, htk]; exact hP)⟩, hS.F ht⟩) hS.2.2 dX2_takes_74
    · have h45 : kc = 45 := (nI_eq (a := kc) (b := 45) (by omega) (by omega)).mp c_2
      refine lv_aload_n hx hb dX2_takes_27 rfl (lv_at hl 0 rfl) ?_
      refine w_get (C := RX2) (T := TX2) (N := 3) (ci := 2) (v := .int (nI di)) hx hb hts hin2 hown hK hP 0 (by decide) rfl rfl 2 (by decide) (hts (.fieldLink RX2 18 "MixedBlocks$Part" "digits" "I") (List.mem_of_getElem? (i := 1) rfl)) (fun _ h9 => h9) rfl dX2_takes_28 ?_
      refine lv_if_le (tgt := 56) hx hb dX2_takes_31 (by decide) (fun c_7 => ?_) (fun c_7 => ?_)
      · have hdi : ¬ 0 < di := fun z => absurd c_7 (nI_nle z (by omega))
        refine lv_iload_n hx hb dX2_takes_56 rfl (lv_at hl 1 rfl) ?_
        refine lv_bipush (v := 44) hx hb dX2_takes_57 (by decide) ?_
        refine lv_icmp_ne (tgt := 75) hx hb dX2_takes_59 (by decide) (fun c_8 => ?_) (fun c_8 => ?_)
        · have h44 : ¬ kc = 44 := fun z => c_8 (by rw [z]; rfl)
          refine lv_iconst (v := 0) hx hb dX2_takes_75 (by decide) ?_
          have htk := tkS_mn (q := (fi, nu, di)) (k := kc) h45 (fun z => hdi z.1)
          exact W.zret (v := 0) hx hb hr rfl (fun t ht hW => ⟨⟨_, (), rfl, (by show _ = _; rw [htk]; rfl), (by show paP E g (tkS (fi, nu, di) kc).2 t.heap; rw [ht, htk]; exact hP)⟩, hS.F ht⟩) hS.2.2 dX2_takes_76
        · have h44 : kc = 44 := (nI_eq (a := kc) (b := 44) (by omega) (by omega)).mp c_8
          exfalso
          omega
      · have hdi : 0 < di := Nat.pos_of_ne_zero (fun z => c_7 (by rw [z]; exact Int32.le_refl 0))
        refine lv_aload_n hx hb dX2_takes_34 rfl (lv_at hl 0 rfl) ?_
        refine w_get (C := RX2) (T := TX2) (N := 3) (ci := 2) (v := .int fi) hx hb hts hin2 hown hK hP 0 (by decide) rfl rfl 0 (by decide) (hts (.fieldLink RX2 9 "MixedBlocks$Part" "first" "I") (List.mem_of_getElem? (i := 2) rfl)) (fun _ h9 => h9) rfl dX2_takes_35 ?_
        refine lv_iconst (v := (-1)) hx hb dX2_takes_38 (by decide) ?_
        refine lv_icmp_ne (tgt := 56) hx hb dX2_takes_39 (by decide) (fun c_9 => ?_) (fun c_9 => ?_)
        · refine lv_iload_n hx hb dX2_takes_56 rfl (lv_at hl 1 rfl) ?_
          refine lv_bipush (v := 44) hx hb dX2_takes_57 (by decide) ?_
          refine lv_icmp_ne (tgt := 75) hx hb dX2_takes_59 (by decide) (fun c_10 => ?_) (fun c_10 => ?_)
          · have h44 : ¬ kc = 44 := fun z => c_10 (by rw [z]; rfl)
            refine lv_iconst (v := 0) hx hb dX2_takes_75 (by decide) ?_
            have htk := tkS_mn (q := (fi, nu, di)) (k := kc) h45 (fun z => c_9 z.2)
            exact W.zret (v := 0) hx hb hr rfl (fun t ht hW => ⟨⟨_, (), rfl, (by show _ = _; rw [htk]; rfl), (by show paP E g (tkS (fi, nu, di) kc).2 t.heap; rw [ht, htk]; exact hP)⟩, hS.F ht⟩) hS.2.2 dX2_takes_76
          · have h44 : kc = 44 := (nI_eq (a := kc) (b := 44) (by omega) (by omega)).mp c_10
            exfalso
            omega
        · refine lv_aload_n hx hb dX2_takes_42 rfl (lv_at hl 0 rfl) ?_
          refine lv_aload_n hx hb dX2_takes_43 rfl (lv_at hl 0 rfl) ?_
          refine w_get (C := RX2) (T := TX2) (N := 3) (ci := 2) (v := .int (nI nu)) hx hb hts hin2 hown hK hP 0 (by decide) rfl rfl 1 (by decide) (hts (.fieldLink RX2 15 "MixedBlocks$Part" "number" "I") (List.mem_of_getElem? (i := 3) rfl)) (fun _ h9 => h9) rfl dX2_takes_44 ?_
          refine w_put (C := RX2) (T := TX2) (N := 3) (ci := 2) (v := .int (nI nu)) (ty := .int) hx hb hts hin2 tyX2 tyX2_ok nmX2 hown hK hP hI hA hS 0 (by decide) rfl rfl 0 (by decide) (hts (.fieldLink RX2 9 "MixedBlocks$Part" "first" "I") (List.mem_of_getElem? (i := 2) rfl)) (fun _ h9 => h9) rfl (by decide +kernel) rfl rfl (Nat.le_of_ble_eq_true rfl) dX2_takes_47 (paF (nI nu) nu di) rfl pa_ne (fun H_11 locs_11 hP hS => ?_)
          refine lv_aload_n hx hb dX2_takes_50 rfl (lv_at hl 0 rfl) ?_
          refine va_callv (va_runV (As := []) (rest := []) ⟨hx, hb, hml, hown, hts⟩ (c_X2_startNumber l E g (nI nu) nu di ) (cwV 0 hts gX2_takes_X2_startNumber rfl rfl rfl (by decide +kernel) ⟨Nat.le_of_ble_eq_true rfl, Nat.le_of_ble_eq_true rfl⟩) ⟨wS.blind, (w_recv hK hP 0 (by decide) rfl (ci := 2) rfl), fun U hU hW => wS.go hP hK hI hU hW⟩ rfl rfl hl.1 rfl (lv_room (Nat.le_of_ble_eq_true rfl)) dX2_takes_51 ⟨Nat.zero_le _, Nat.zero_le _⟩) hS (fun q _ h => h) (fun q h => h) (fun uu t H_12 locs_12 ht hvm hw hB hz1 hk1 hS => ?_)
          rw [ht] at hB
          have hP : wP E 1 g (paF (nI nu) 0 0) H_12 := hB
          refine lv_iconst (v := 1) hx hb dX2_takes_54 (by decide) ?_
          have htk := tkS_my (q := (fi, nu, di)) (k := kc) h45 ⟨hdi, c_9⟩
          exact W.zret (v := 1) hx hb hr rfl (fun t ht hW => ⟨⟨_, (), rfl, (by show _ = _; rw [htk]; rfl), (by show paP E g (tkS (fi, nu, di) kc).2 t.heap; rw [ht, htk]; exact hP)⟩, hS.F ht⟩) hS.2.2 dX2_takes_55
  · have h48 : 48 ≤ kc := Nat.le_of_not_lt (fun z => c_1 (nI_lt (a := kc) (b := 48) z (by decide)))
    refine lv_iload_n hx hb dX2_takes_6 rfl (lv_at hl 1 rfl) ?_
    refine lv_bipush (v := 57) hx hb dX2_takes_7 (by decide) ?_
    refine lv_icmp_gt (tgt := 21) hx hb dX2_takes_9 (by decide) (fun c_13 => ?_) (fun c_13 => ?_)
    · have h57 : ¬ kc ≤ 57 := fun z => absurd c_13 (nI_nlt (a := 57) (b := kc) z (by omega))
      refine lv_iload_n hx hb dX2_takes_21 rfl (lv_at hl 1 rfl) ?_
      refine lv_bipush (v := 45) hx hb dX2_takes_22 (by decide) ?_
      refine lv_icmp_ne (tgt := 56) hx hb dX2_takes_24 (by decide) (fun c_14 => ?_) (fun c_14 => ?_)
      · have h45 : ¬ kc = 45 := fun z => c_14 (by rw [z]; rfl)
        refine lv_iload_n hx hb dX2_takes_56 rfl (lv_at hl 1 rfl) ?_
        refine lv_bipush (v := 44) hx hb dX2_takes_57 (by decide) ?_
        refine lv_icmp_ne (tgt := 75) hx hb dX2_takes_59 (by decide) (fun c_15 => ?_) (fun c_15 => ?_)
        · have h44 : ¬ kc = 44 := fun z => c_15 (by rw [z]; rfl)
          refine lv_iconst (v := 0) hx hb dX2_takes_75 (by decide) ?_
          have htk := tkS_o (q := (fi, nu, di)) (k := kc) (fun z => h57 z.2) h45 h44
          exact W.zret (v := 0) hx hb hr rfl (fun t ht hW => ⟨⟨_, (), rfl, (by show _ = _; rw [htk]; rfl), (by show paP E g (tkS (fi, nu, di) kc).2 t.heap; rw [ht, htk]; exact hP)⟩, hS.F ht⟩) hS.2.2 dX2_takes_76
        · have h44 : kc = 44 := (nI_eq (a := kc) (b := 44) (by omega) (by omega)).mp c_15
          refine lv_aload_n hx hb dX2_takes_62 rfl (lv_at hl 0 rfl) ?_
          refine va_calli (va_runV (As := []) (rest := []) ⟨hx, hb, hml, hown, hts⟩ (c_X2_isComplete l E g fi nu di hnu4 hdi4) (cwV 0 hts gX2_takes_X2_isComplete rfl rfl rfl (by decide +kernel) ⟨Nat.le_of_ble_eq_true rfl, Nat.le_of_ble_eq_true rfl⟩) ⟨wS.blind, (w_recv hK hP 0 (by decide) rfl (ci := 2) rfl), fun U hU hW => wS.go hP hK hI hU hW⟩ rfl rfl hl.1 rfl (lv_room (Nat.le_of_ble_eq_true rfl)) dX2_takes_63 ⟨Nat.zero_le _, Nat.zero_le _⟩) hS (fun q _ h => h.elim) (fun q h => h.elim) (fun r_16 uu t H_16 locs_16 ht hvm hw hB hz1 hk1 hS => ?_)
          have hP := hP.same hk1
          obtain rfl : r_16 = (bI (cmI (fi, nu, di))) := hw
          refine lv_if_eq (tgt := 75) hx hb dX2_takes_66 (by decide) (fun c_17 => ?_) (fun c_17 => ?_)
          · refine lv_iconst (v := 0) hx hb dX2_takes_75 (by decide) ?_
            have htk := tkS_cn (q := (fi, nu, di)) (k := kc) h44 (bI_0 c_17)
            exact W.zret (v := 0) hx hb hr rfl (fun t ht hW => ⟨⟨_, (), rfl, (by show _ = _; rw [htk]; rfl), (by show paP E g (tkS (fi, nu, di) kc).2 t.heap; rw [ht, htk]; exact hP)⟩, hS.F ht⟩) hS.2.2 dX2_takes_76
          · refine lv_aload_n hx hb dX2_takes_69 rfl (lv_at hl 0 rfl) ?_
            refine va_callv (va_runV (As := []) (rest := []) ⟨hx, hb, hml, hown, hts⟩ (c_X2_begin l E g fi nu di ) (cwV 0 hts gX2_takes_X2_begin rfl rfl rfl (by decide +kernel) ⟨Nat.le_of_ble_eq_true rfl, Nat.le_of_ble_eq_true rfl⟩) ⟨wS.blind, (w_recv hK hP 0 (by decide) rfl (ci := 2) rfl), fun U hU hW => wS.go hP hK hI hU hW⟩ rfl rfl hl.1 rfl (lv_room (Nat.le_of_ble_eq_true rfl)) dX2_takes_70 ⟨Nat.zero_le _, Nat.zero_le _⟩) hS (fun q _ h => h) (fun q h => h) (fun uu t H_18 locs_18 ht hvm hw hB hz1 hk1 hS => ?_)
            rw [ht] at hB
            have hP : wP E 1 g (paF (-1) 0 0) H_18 := hB
            refine lv_iconst (v := 1) hx hb dX2_takes_73 (by decide) ?_
            have htk := tkS_cy (q := (fi, nu, di)) (k := kc) h44 (bI_1 c_17)
            exact W.zret (v := 1) hx hb hr rfl (fun t ht hW => ⟨⟨_, (), rfl, (by show _ = _; rw [htk]; rfl), (by show paP E g (tkS (fi, nu, di) kc).2 t.heap; rw [ht, htk]; exact hP)⟩, hS.F ht⟩) hS.2.2 dX2_takes_74
      · have h45 : kc = 45 := (nI_eq (a := kc) (b := 45) (by omega) (by omega)).mp c_14
        refine lv_aload_n hx hb dX2_takes_27 rfl (lv_at hl 0 rfl) ?_
        refine w_get (C := RX2) (T := TX2) (N := 3) (ci := 2) (v := .int (nI di)) hx hb hts hin2 hown hK hP 0 (by decide) rfl rfl 2 (by decide) (hts (.fieldLink RX2 18 "MixedBlocks$Part" "digits" "I") (List.mem_of_getElem? (i := 1) rfl)) (fun _ h9 => h9) rfl dX2_takes_28 ?_
        refine lv_if_le (tgt := 56) hx hb dX2_takes_31 (by decide) (fun c_19 => ?_) (fun c_19 => ?_)
        · have hdi : ¬ 0 < di := fun z => absurd c_19 (nI_nle z (by omega))
          refine lv_iload_n hx hb dX2_takes_56 rfl (lv_at hl 1 rfl) ?_
          refine lv_bipush (v := 44) hx hb dX2_takes_57 (by decide) ?_
          refine lv_icmp_ne (tgt := 75) hx hb dX2_takes_59 (by decide) (fun c_20 => ?_) (fun c_20 => ?_)
          · have h44 : ¬ kc = 44 := fun z => c_20 (by rw [z]; rfl)
            refine lv_iconst (v := 0) hx hb dX2_takes_75 (by decide) ?_
            have htk := tkS_mn (q := (fi, nu, di)) (k := kc) h45 (fun z => hdi z.1)
            exact W.zret (v := 0) hx hb hr rfl (fun t ht hW => ⟨⟨_, (), rfl, (by show _ = _; rw [htk]; rfl), (by show paP E g (tkS (fi, nu, di) kc).2 t.heap; rw [ht, htk]; exact hP)⟩, hS.F ht⟩) hS.2.2 dX2_takes_76
          · have h44 : kc = 44 := (nI_eq (a := kc) (b := 44) (by omega) (by omega)).mp c_20
            exfalso
            omega
        · have hdi : 0 < di := Nat.pos_of_ne_zero (fun z => c_19 (by rw [z]; exact Int32.le_refl 0))
          refine lv_aload_n hx hb dX2_takes_34 rfl (lv_at hl 0 rfl) ?_
          refine w_get (C := RX2) (T := TX2) (N := 3) (ci := 2) (v := .int fi) hx hb hts hin2 hown hK hP 0 (by decide) rfl rfl 0 (by decide) (hts (.fieldLink RX2 9 "MixedBlocks$Part" "first" "I") (List.mem_of_getElem? (i := 2) rfl)) (fun _ h9 => h9) rfl dX2_takes_35 ?_
          refine lv_iconst (v := (-1)) hx hb dX2_takes_38 (by decide) ?_
          refine lv_icmp_ne (tgt := 56) hx hb dX2_takes_39 (by decide) (fun c_21 => ?_) (fun c_21 => ?_)
          · refine lv_iload_n hx hb dX2_takes_56 rfl (lv_at hl 1 rfl) ?_
            refine lv_bipush (v := 44) hx hb dX2_takes_57 (by decide) ?_
            refine lv_icmp_ne (tgt := 75) hx hb dX2_takes_59 (by decide) (fun c_22 => ?_) (fun c_22 => ?_)
            · have h44 : ¬ kc = 44 := fun z => c_22 (by rw [z]; rfl)
              refine lv_iconst (v := 0) hx hb dX2_takes_75 (by decide) ?_
              have htk := tkS_mn (q := (fi, nu, di)) (k := kc) h45 (fun z => c_21 z.2)
              exact W.zret (v := 0) hx hb hr rfl (fun t ht hW => ⟨⟨_, (), rfl, (by show _ = _; rw [htk]; rfl), (by show paP E g (tkS (fi, nu, di) kc).2 t.heap; rw [ht, htk]; exact hP)⟩, hS.F ht⟩) hS.2.2 dX2_takes_76
            · have h44 : kc = 44 := (nI_eq (a := kc) (b := 44) (by omega) (by omega)).mp c_22
              exfalso
              omega
          · refine lv_aload_n hx hb dX2_takes_42 rfl (lv_at hl 0 rfl) ?_
            refine lv_aload_n hx hb dX2_takes_43 rfl (lv_at hl 0 rfl) ?_
            refine w_get (C := RX2) (T := TX2) (N := 3) (ci := 2) (v := .int (nI nu)) hx hb hts hin2 hown hK hP 0 (by decide) rfl rfl 1 (by decide) (hts (.fieldLink RX2 15 "MixedBlocks$Part" "number" "I") (List.mem_of_getElem? (i := 3) rfl)) (fun _ h9 => h9) rfl dX2_takes_44 ?_
            refine w_put (C := RX2) (T := TX2) (N := 3) (ci := 2) (v := .int (nI nu)) (ty := .int) hx hb hts hin2 tyX2 tyX2_ok nmX2 hown hK hP hI hA hS 0 (by decide) rfl rfl 0 (by decide) (hts (.fieldLink RX2 9 "MixedBlocks$Part" "first" "I") (List.mem_of_getElem? (i := 2) rfl)) (fun _ h9 => h9) rfl (by decide +kernel) rfl rfl (Nat.le_of_ble_eq_true rfl) dX2_takes_47 (paF (nI nu) nu di) rfl pa_ne (fun H_23 locs_23 hP hS => ?_)
            refine lv_aload_n hx hb dX2_takes_50 rfl (lv_at hl 0 rfl) ?_
            refine va_callv (va_runV (As := []) (rest := []) ⟨hx, hb, hml, hown, hts⟩ (c_X2_startNumber l E g (nI nu) nu di ) (cwV 0 hts gX2_takes_X2_startNumber rfl rfl rfl (by decide +kernel) ⟨Nat.le_of_ble_eq_true rfl, Nat.le_of_ble_eq_true rfl⟩) ⟨wS.blind, (w_recv hK hP 0 (by decide) rfl (ci := 2) rfl), fun U hU hW => wS.go hP hK hI hU hW⟩ rfl rfl hl.1 rfl (lv_room (Nat.le_of_ble_eq_true rfl)) dX2_takes_51 ⟨Nat.zero_le _, Nat.zero_le _⟩) hS (fun q _ h => h) (fun q h => h) (fun uu t H_24 locs_24 ht hvm hw hB hz1 hk1 hS => ?_)
            rw [ht] at hB
            have hP : wP E 1 g (paF (nI nu) 0 0) H_24 := hB
            refine lv_iconst (v := 1) hx hb dX2_takes_54 (by decide) ?_
            have htk := tkS_my (q := (fi, nu, di)) (k := kc) h45 ⟨hdi, c_21⟩
            exact W.zret (v := 1) hx hb hr rfl (fun t ht hW => ⟨⟨_, (), rfl, (by show _ = _; rw [htk]; rfl), (by show paP E g (tkS (fi, nu, di) kc).2 t.heap; rw [ht, htk]; exact hP)⟩, hS.F ht⟩) hS.2.2 dX2_takes_55
    · have h57 : kc ≤ 57 := Nat.le_of_not_lt (fun z => c_13 (nI_lt (a := 57) (b := kc) z (by omega)))
      refine lv_aload_n hx hb dX2_takes_12 rfl (lv_at hl 0 rfl) ?_
      refine lv_iload_n hx hb dX2_takes_13 rfl (lv_at hl 1 rfl) ?_
      refine lv_bipush (v := 48) hx hb dX2_takes_14 (by decide) ?_
      refine lv_isub hx hb dX2_takes_16 ?_
      rw [show (nI kc) - 48 = nI (kc - 48) from pk_sub (a := kc) (b := 48) (by omega)]
      refine va_calli (va_runV (As := [.int (nI (kc - 48))]) (rest := []) ⟨hx, hb, hml, hown, hts⟩ (c_X2_takesDigit l E g fi nu di (kc - 48) (by omega) hnu4 hdi4) (cwV 1 hts gX2_takes_X2_takesDigit rfl rfl rfl (by decide +kernel) ⟨Nat.le_of_ble_eq_true rfl, Nat.le_of_ble_eq_true rfl⟩) ⟨wS.blind, (w_recv hK hP 0 (by decide) rfl (ci := 2) rfl), fun U hU hW => wS.go hP hK hI hU hW⟩ rfl rfl hl.1 rfl (lv_room (Nat.le_of_ble_eq_true rfl)) dX2_takes_17 ⟨Nat.zero_le _, Nat.zero_le _⟩) hS (fun q _ h => h) (fun q h => h) (fun r_25 uu t H_25 locs_25 ht hvm hw hB hz1 hk1 hS => ?_)
      rw [ht] at hB
      have hP : wP E 1 g (paF ((tkD (fi, nu, di) (kc - 48)).2.1) ((tkD (fi, nu, di) (kc - 48)).2.2.1) ((tkD (fi, nu, di) (kc - 48)).2.2.2)) H_25 := hB
      obtain rfl : r_25 = (bI (tkD (fi, nu, di) (kc - 48)).1) := hw
      have htk := tkS_d (q := (fi, nu, di)) (k := kc) ⟨h48, h57⟩
      exact W.zret (v := (bI (tkD (fi, nu, di) (kc - 48)).1)) hx hb hr (bI_n _) (fun t ht hW => ⟨⟨_, (), rfl, (by show _ = _; rw [htk]), (by show paP E g (tkS (fi, nu, di) kc).2 t.heap; rw [ht, htk]; exact hP)⟩, hS.F ht⟩) hS.2.2 dX2_takes_20
