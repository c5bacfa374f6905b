set_option maxHeartbeats 4000000 in
set_option maxRecDepth 100000 in
theorem c_X3_become (l : Launch) (E : wE) (g : Nat → Nat) (li : Bool) (kb : Int32) (al : Nat → Int32) (L : List Int32) (go tn lo : Int32) (g2 : Nat → Nat) (li2 : Bool) (kb2 : Int32) (al2 : Nat → Int32) (L2 : List Int32) (go2 tn2 lo2 : Int32) (hI : wI 3 g) (hJ : wI 3 g2) (hX : wX 3 g 3 g2) : Met l yX3_become wsX3_become ({ frames := 2, cells := 0, slots := 0, locals := 85 }) (va_Pc [.ref ((g 0)), .ref ((g2 0))] (wS E 0 g (fun H => rcP E g li kb al L go tn lo H ∧ rcP E g2 li2 kb2 al2 L2 go2 tn2 lo2 H))) (va_Qv (fun (_ : Unit) => True) (fun _ t => rcP E g li2 kb2 al2 L2 go2 tn2 lo2 (t.heap) ∧ rcP E g2 li2 kb2 al2 L2 go2 tn2 lo2 (t.heap)) (fun q => wF 3 g q ∨ wF 3 g2 q)) 0 0 (fun q => wF 3 g q ∨ wF 3 g2 q) := by
  refine Met.ofW (cc := cX3_become) (maxL := 2) (ret := none) (by decide) rfl ?_
  intro p e s m args below meth c s₁ B hml hv
  obtain ⟨rfl, ⟨⟨hln, lf, hlf, hP⟩, ⟨hln2, lf2, hlf2, hQ⟩⟩, hK, hI0⟩ := hv
  have hx := B.exec
  have hb := B.bytes
  have hr := B.returns
  have hts := atoms_spec (ws := wsX3_become) B.pre
  have hown : s.vm.findClass RX3 = some m.cls := findClass_of_methodNamed B.named
  have hlocks := B.notSynchronized
  have hS : va_S (fun q => wF 3 g q ∨ wF 3 g2 q) s.heap s.heap [] := va_S.rf
  have hin3 : ∀ w ∈ wsX30, w ∈ wsX3_become := by decide +kernel
  have hl := lv_entry ([.ref ((g 0)), .ref ((g2 0))]) (n := 2) (Nat.le_of_ble_eq_true rfl)
  rw [lg_entry_eq]
  generalize (lg_sl ([.ref ((g 0)), .ref ((g2 0))]) ++ List.replicate (2 - (lg_sl ([.ref ((g 0)), .ref ((g2 0))])).length) Slot.unset).toArray = ls at hl ⊢
  have hl : lv_has ls 2 [(0, .ref ((g 0))), (1, .ref ((g2 0)))] := hl
  have hI9 := hI
  have hA : ∀ k, k < 3 → (fun q => wF 3 g q ∨ wF 3 g2 q) (g k) := fun k hk => Or.inl (wF_in k hk)
  refine lv_aload_n hx hb dX3_become_0 rfl (lv_at hl 1 rfl) ?_
  refine lv_ifnonnull (tgt := 5) hx hb dX3_become_1 (by decide) ?_
  refine lv_aload_n hx hb dX3_become_5 rfl (lv_at hl 0 rfl) ?_
  refine lv_aload_n hx hb dX3_become_6 rfl (lv_at hl 1 rfl) ?_
  refine w_get (C := RX3) (T := TX3) (N := 8) (ci := 3) (v := .int ((bI li2))) hx hb hts hin3 hown hK hQ 0 (by decide) rfl rfl 0 (by decide) (hts (.fieldLink RX3 18 "MixedBlocks$Receiver" "listens" "Z") (List.mem_of_getElem? (i := 1) rfl)) (fun _ h9 => h9) rfl dX3_become_7 ?_
  refine w_putO (C := RX3) (T := TX3) (N := 8) (ci := 3) (v := .int ((bI li2))) (ty := .boolean) hx hb hts hin3 tyX3 tyX3_ok nmX3 hown hK hP hI9 hA hS 0 (by decide) rfl rfl 0 (by decide) (hts (.fieldLink RX3 18 "MixedBlocks$Receiver" "listens" "Z") (List.mem_of_getElem? (i := 1) rfl)) (fun _ h9 => h9) rfl (by decide +kernel) (bI_n _) (bI_f _) (Nat.le_of_ble_eq_true rfl) dX3_become_10 (rcF E g li2 kb al lf L.length go tn lo) rfl rc_ne0 (fun H_1 locs_1 hP hO hS => ?_)
  have hQ := hQ.keep (fun k hk => hO _ (fun e => hX 0 k (by decide) hk e.symm))
  refine lv_aload_n hx hb dX3_become_13 rfl (lv_at hl 0 rfl) ?_
  refine lv_aload_n hx hb dX3_become_14 rfl (lv_at hl 1 rfl) ?_
  refine w_get (C := RX3) (T := TX3) (N := 8) (ci := 3) (v := .int kb2) hx hb hts hin3 hown hK hQ 0 (by decide) rfl rfl 1 (by decide) (hts (.fieldLink RX3 22 "MixedBlocks$Receiver" "knownBlocks" "I") (List.mem_of_getElem? (i := 2) rfl)) (fun _ h9 => h9) rfl dX3_become_15 ?_
  refine w_putO (C := RX3) (T := TX3) (N := 8) (ci := 3) (v := .int kb2) (ty := .int) hx hb hts hin3 tyX3 tyX3_ok nmX3 hown hK hP hI9 hA hS 0 (by decide) rfl rfl 1 (by decide) (hts (.fieldLink RX3 22 "MixedBlocks$Receiver" "knownBlocks" "I") (List.mem_of_getElem? (i := 2) rfl)) (fun _ h9 => h9) rfl (by decide +kernel) rfl rfl (Nat.le_of_ble_eq_true rfl) dX3_become_18 (rcF E g li2 kb2 al lf L.length go tn lo) rfl rc_ne0 (fun H_2 locs_2 hP hO hS => ?_)
  have hQ := hQ.keep (fun k hk => hO _ (fun e => hX 0 k (by decide) hk e.symm))
  refine lv_aload_n hx hb dX3_become_21 rfl (lv_at hl 1 rfl) ?_
  refine w_get (C := RX3) (T := TX3) (N := 8) (ci := 3) (v := .ref ((g2 1))) hx hb hts hin3 hown hK hQ 0 (by decide) rfl rfl 2 (by decide) (hts (.fieldLink RX3 9 "MixedBlocks$Receiver" "alone" "[I") (List.mem_of_getElem? (i := 3) rfl)) (fun _ h9 => h9) rfl dX3_become_22 ?_
  refine lv_aload_n hx hb dX3_become_25 rfl (lv_at hl 0 rfl) ?_
  refine w_get (C := RX3) (T := TX3) (N := 8) (ci := 3) (v := .ref ((g 1))) hx hb hts hin3 hown hK hP 0 (by decide) rfl rfl 2 (by decide) (hts (.fieldLink RX3 9 "MixedBlocks$Receiver" "alone" "[I") (List.mem_of_getElem? (i := 3) rfl)) (fun _ h9 => h9) rfl dX3_become_26 ?_
  refine va_callv (va_runSN (As := [.ref ((g2 1)), .ref ((g 1))]) (rest := []) ⟨hx, hb, hml, hown, hts⟩ (c_X5_copyRow l E (cpG (g2 1) (g 1)) 12 al2 al (by decide)) ⟨va_cnB 2 hts gX3_become_X5_copyRow_n26 rfl rfl rfl (hK.2 _ nm_X3_26) (hts (.initialized RX5) (List.mem_of_getElem? (i := 10) rfl)) (by decide +kernel) ⟨Nat.le_of_ble_eq_true rfl, Nat.le_of_ble_eq_true rfl⟩, (hts (.static yX5_copyRow) (List.mem_of_getElem? (i := 9) rfl)), trivial⟩ ⟨wS.blind, fun U hU hW => wS.go (cp_mk (wP_at.mp hQ 1 (by decide)) (wP_at.mp hP 1 (by decide))) hK (cpG_I (fun e => hX 1 1 (by decide) (by decide) e.symm)) hU hW⟩ rfl rfl hl.1 rfl (lv_room (Nat.le_of_ble_eq_true rfl)) dX3_become_29 ⟨Nat.zero_le _, Nat.zero_le _⟩) hS (fun q _ h => (cpG_sub (A := fun q => wF 3 g q ∨ wF 3 g2 q) (Or.inr ⟨1, by decide, rfl⟩) (Or.inl ⟨1, by decide, rfl⟩)) q h) (cpG_sub (A := fun q => wF 3 g q ∨ wF 3 g2 q) (Or.inr ⟨1, by decide, rfl⟩) (Or.inl ⟨1, by decide, rfl⟩)) (fun uu t H_3 locs_3 ht hvm hw hB hz1 hk1 hS => ?_)
  rw [ht] at hB
  have hP : wP E 3 g (rcF E g li2 kb2 (va_cpy al2 al 0 0 12) lf L.length go tn lo) H_3 := hP.cell 1 (wP_at.mp hB 1 (by decide)) hk1 (fun k hk hne h => by rcases cpG_F h with e | e; exact hX k 1 hk (by decide) e; exact hne (hI k 1 hk (by decide) e)) rc_ne1
  have hQ : wP E 3 g2 (rcF E g2 li2 kb2 al2 lf2 L2.length go2 tn2 lo2) H_3 := hQ.cell 1 (wP_at.mp hB 0 (by decide)) hk1 (fun k hk hne h => by rcases cpG_F h with e | e; exact hne (hJ k 1 hk (by decide) e); exact hX 1 k (by decide) hk e.symm) (fun _ _ _ => rfl)
  refine lv_aload_n hx hb dX3_become_32 rfl (lv_at hl 1 rfl) ?_
  refine w_get (C := RX3) (T := TX3) (N := 8) (ci := 3) (v := .ref ((g2 2))) hx hb hts hin3 hown hK hQ 0 (by decide) rfl rfl 3 (by decide) (hts (.fieldLink RX3 15 "MixedBlocks$Receiver" "left" "[I") (List.mem_of_getElem? (i := 4) rfl)) (fun _ h9 => h9) rfl dX3_become_33 ?_
  refine lv_aload_n hx hb dX3_become_36 rfl (lv_at hl 0 rfl) ?_
  refine w_get (C := RX3) (T := TX3) (N := 8) (ci := 3) (v := .ref ((g 2))) hx hb hts hin3 hown hK hP 0 (by decide) rfl rfl 3 (by decide) (hts (.fieldLink RX3 15 "MixedBlocks$Receiver" "left" "[I") (List.mem_of_getElem? (i := 4) rfl)) (fun _ h9 => h9) rfl dX3_become_37 ?_
  refine va_callv (va_runSN (As := [.ref ((g2 2)), .ref ((g 2))]) (rest := []) ⟨hx, hb, hml, hown, hts⟩ (c_X5_copyRow l E (cpG (g2 2) (g 2)) 24 lf2 lf (by decide)) ⟨va_cnB 2 hts gX3_become_X5_copyRow_n26 rfl rfl rfl (hK.2 _ nm_X3_26) (hts (.initialized RX5) (List.mem_of_getElem? (i := 10) rfl)) (by decide +kernel) ⟨Nat.le_of_ble_eq_true rfl, Nat.le_of_ble_eq_true rfl⟩, (hts (.static yX5_copyRow) (List.mem_of_getElem? (i := 9) rfl)), trivial⟩ ⟨wS.blind, fun U hU hW => wS.go (cp_mk (wP_at.mp hQ 2 (by decide)) (wP_at.mp hP 2 (by decide))) hK (cpG_I (fun e => hX 2 2 (by decide) (by decide) e.symm)) hU hW⟩ rfl rfl hl.1 rfl (lv_room (Nat.le_of_ble_eq_true rfl)) dX3_become_40 ⟨Nat.zero_le _, Nat.zero_le _⟩) hS (fun q _ h => (cpG_sub (A := fun q => wF 3 g q ∨ wF 3 g2 q) (Or.inr ⟨2, by decide, rfl⟩) (Or.inl ⟨2, by decide, rfl⟩)) q h) (cpG_sub (A := fun q => wF 3 g q ∨ wF 3 g2 q) (Or.inr ⟨2, by decide, rfl⟩) (Or.inl ⟨2, by decide, rfl⟩)) (fun uu t H_4 locs_4 ht hvm hw hB hz1 hk1 hS => ?_)
  rw [ht] at hB
  have hP : wP E 3 g (rcF E g li2 kb2 (va_cpy al2 al 0 0 12) (va_cpy lf2 lf 0 0 24) L.length go tn lo) H_4 := hP.cell 2 (wP_at.mp hB 1 (by decide)) hk1 (fun k hk hne h => by rcases cpG_F h with e | e; exact hX k 2 hk (by decide) e; exact hne (hI k 2 hk (by decide) e)) rc_ne2
  have hQ : wP E 3 g2 (rcF E g2 li2 kb2 al2 lf2 L2.length go2 tn2 lo2) H_4 := hQ.cell 2 (wP_at.mp hB 0 (by decide)) hk1 (fun k hk hne h => by rcases cpG_F h with e | e; exact hne (hJ k 2 hk (by decide) e); exact hX 2 k (by decide) hk e.symm) (fun _ _ _ => rfl)
  refine lv_aload_n hx hb dX3_become_43 rfl (lv_at hl 0 rfl) ?_
  refine lv_aload_n hx hb dX3_become_44 rfl (lv_at hl 1 rfl) ?_
  refine w_get (C := RX3) (T := TX3) (N := 8) (ci := 3) (v := .int (nI L2.length)) hx hb hts hin3 hown hK hQ 0 (by decide) rfl rfl 4 (by decide) (hts (.fieldLink RX3 30 "MixedBlocks$Receiver" "waits" "I") (List.mem_of_getElem? (i := 5) rfl)) (fun _ h9 => h9) rfl dX3_become_45 ?_
  refine w_putO (C := RX3) (T := TX3) (N := 8) (ci := 3) (v := .int (nI L2.length)) (ty := .int) hx hb hts hin3 tyX3 tyX3_ok nmX3 hown hK hP hI9 hA hS 0 (by decide) rfl rfl 4 (by decide) (hts (.fieldLink RX3 30 "MixedBlocks$Receiver" "waits" "I") (List.mem_of_getElem? (i := 5) rfl)) (fun _ h9 => h9) rfl (by decide +kernel) rfl rfl (Nat.le_of_ble_eq_true rfl) dX3_become_48 (rcF E g li2 kb2 (va_cpy al2 al 0 0 12) (va_cpy lf2 lf 0 0 24) L2.length go tn lo) rfl rc_ne0 (fun H_5 locs_5 hP hO hS => ?_)
  have hQ := hQ.keep (fun k hk => hO _ (fun e => hX 0 k (by decide) hk e.symm))
  refine lv_aload_n hx hb dX3_become_51 rfl (lv_at hl 0 rfl) ?_
  refine lv_aload_n hx hb dX3_become_52 rfl (lv_at hl 1 rfl) ?_
  refine w_get (C := RX3) (T := TX3) (N := 8) (ci := 3) (v := .int go2) hx hb hts hin3 hown hK hQ 0 (by decide) rfl rfl 5 (by decide) (hts (.fieldLink RX3 33 "MixedBlocks$Receiver" "got" "I") (List.mem_of_getElem? (i := 6) rfl)) (fun _ h9 => h9) rfl dX3_become_53 ?_
  refine w_putO (C := RX3) (T := TX3) (N := 8) (ci := 3) (v := .int go2) (ty := .int) hx hb hts hin3 tyX3 tyX3_ok nmX3 hown hK hP hI9 hA hS 0 (by decide) rfl rfl 5 (by decide) (hts (.fieldLink RX3 33 "MixedBlocks$Receiver" "got" "I") (List.mem_of_getElem? (i := 6) rfl)) (fun _ h9 => h9) rfl (by decide +kernel) rfl rfl (Nat.le_of_ble_eq_true rfl) dX3_become_56 (rcF E g li2 kb2 (va_cpy al2 al 0 0 12) (va_cpy lf2 lf 0 0 24) L2.length go2 tn lo) rfl rc_ne0 (fun H_6 locs_6 hP hO hS => ?_)
  have hQ := hQ.keep (fun k hk => hO _ (fun e => hX 0 k (by decide) hk e.symm))
  refine lv_aload_n hx hb dX3_become_59 rfl (lv_at hl 0 rfl) ?_
  refine lv_aload_n hx hb dX3_become_60 rfl (lv_at hl 1 rfl) ?_
  refine w_get (C := RX3) (T := TX3) (N := 8) (ci := 3) (v := .int tn2) hx hb hts hin3 hown hK hQ 0 (by decide) rfl rfl 6 (by decide) (hts (.fieldLink RX3 36 "MixedBlocks$Receiver" "toldNothing" "I") (List.mem_of_getElem? (i := 7) rfl)) (fun _ h9 => h9) rfl dX3_become_61 ?_
  refine w_putO (C := RX3) (T := TX3) (N := 8) (ci := 3) (v := .int tn2) (ty := .int) hx hb hts hin3 tyX3 tyX3_ok nmX3 hown hK hP hI9 hA hS 0 (by decide) rfl rfl 6 (by decide) (hts (.fieldLink RX3 36 "MixedBlocks$Receiver" "toldNothing" "I") (List.mem_of_getElem? (i := 7) rfl)) (fun _ h9 => h9) rfl (by decide +kernel) rfl rfl (Nat.le_of_ble_eq_true rfl) dX3_become_64 (rcF E g li2 kb2 (va_cpy al2 al 0 0 12) (va_cpy lf2 lf 0 0 24) L2.length go2 tn2 lo) rfl rc_ne0 (fun H_7 locs_7 hP hO hS => ?_)
  have hQ := hQ.keep (fun k hk => hO _ (fun e => hX 0 k (by decide) hk e.symm))
  refine lv_aload_n hx hb dX3_become_67 rfl (lv_at hl 0 rfl) ?_
  refine lv_aload_n hx hb dX3_become_68 rfl (lv_at hl 1 rfl) ?_
  refine w_get (C := RX3) (T := TX3) (N := 8) (ci := 3) (v := .int lo2) hx hb hts hin3 hown hK hQ 0 (by decide) rfl rfl 7 (by decide) (hts (.fieldLink RX3 39 "MixedBlocks$Receiver" "lost" "I") (List.mem_of_getElem? (i := 8) rfl)) (fun _ h9 => h9) rfl dX3_become_69 ?_
  refine w_putO (C := RX3) (T := TX3) (N := 8) (ci := 3) (v := .int lo2) (ty := .int) hx hb hts hin3 tyX3 tyX3_ok nmX3 hown hK hP hI9 hA hS 0 (by decide) rfl rfl 7 (by decide) (hts (.fieldLink RX3 39 "MixedBlocks$Receiver" "lost" "I") (List.mem_of_getElem? (i := 8) rfl)) (fun _ h9 => h9) rfl (by decide +kernel) rfl rfl (Nat.le_of_ble_eq_true rfl) dX3_become_72 (rcF E g li2 kb2 (va_cpy al2 al 0 0 12) (va_cpy lf2 lf 0 0 24) L2.length go2 tn2 lo2) rfl rc_ne0 (fun H_8 locs_8 hP hO hS => ?_)
  have hQ := hQ.keep (fun k hk => hO _ (fun e => hX 0 k (by decide) hk e.symm))
  exact W.vret hx hb hr (fun t ht hW => ⟨⟨(), rfl, trivial, (by show rcP E g li2 kb2 al2 L2 go2 tn2 lo2 t.heap ∧ rcP E g2 li2 kb2 al2 L2 go2 tn2 lo2 t.heap; rw [ht]; exact ⟨⟨hln2, _, (fun j hj => (cpy_at (by omega)).trans (hlf2 j hj)), rcF_al hP (fun j hj => cpy_at hj)⟩, ⟨hln2, _, hlf2, hQ⟩⟩)⟩, hS.F ht⟩) hS.2.2 dX3_become_75
