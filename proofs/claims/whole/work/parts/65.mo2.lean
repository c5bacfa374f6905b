set_option maxHeartbeats 4000000 in
set_option maxRecDepth 100000 in
theorem c_X6_isDone (l : Launch) (E : wE) (g : Nat → Nat) (th : Int32) (aa sv : Nat → Int32) (sm : Nat) (tx : Nat → Int32) (ln : Nat) (ro : Nat → Int32) (ai : Nat) (wr : Bool) (dg : Int64) (nb : Nat) (va : Nat → Int32) (se : Int32) (rv : Nat → Nat → Int32) (u : Nat) (li : Bool) (K : Nat) (go tn lo : Int32) (L : List Nat) (hu3 : u < 3) (hnb : nb ≤ 12) : Met l yX6_isDone wsX6_isDone ({ frames := 1, cells := 0, slots := 0, locals := 21 }) (va_Pc [.ref ((g 0)), .int (nI u)] (wS E 6 g (fun H => moR E g th aa sv sm tx ln ro ai wr dg nb va se rv u li K go tn lo L (H)))) (va_Qi (fun (r : Int32) (_ : Unit) => r = bI (decide (K = 2 ^ nb - 1))) (fun _ t => True) wN) 0 0 wN := by
  refine Met.ofW (cc := cX6_isDone) (maxL := 2) (ret := (some .boolean)) (by decide) rfl ?_
  intro p e s m args below meth c s₁ B hml hv
  obtain ⟨rfl, ⟨w, hP, hw, hok⟩, hK, hI⟩ := hv
  have hx := B.exec
  have hb := B.bytes
  have hr := B.returns
  have hts := atoms_spec (ws := wsX6_isDone) B.pre
  have hown : s.vm.findClass RX6 = some m.cls := findClass_of_methodNamed B.named
  have hlocks := B.notSynchronized
  have hS : va_S wN s.heap s.heap [] := va_S.rf
  have hin6 : ∀ w ∈ wsX60, w ∈ wsX6_isDone := by decide +kernel
  have hl := lv_entry ([.ref ((g 0)), .int (nI u)]) (n := 2) (Nat.le_of_ble_eq_true rfl)
  rw [lg_entry_eq]
  generalize (lg_sl ([.ref ((g 0)), .int (nI u)]) ++ List.replicate (2 - (lg_sl ([.ref ((g 0)), .int (nI u)])).length) Slot.unset).toArray = ls at hl ⊢
  have hl : lv_has ls 2 [(0, .ref ((g 0))), (1, .int (nI u))] := hl
  have hP : wP E 6 g (moF E g th (mdE nb va se (va_up rv u (rvE li K go tn lo L.length w))) aa sv sm tx ln ro ai wr dg) s.heap := hP
  obtain ⟨hWl, hK12, hW12⟩ := id hok
  have h2p := pow_nb hnb
  refine lv_aload_n hx hb dX6_isDone_0 rfl (lv_at hl 0 rfl) ?_
  refine w_get (C := RX6) (T := TX6) (N := 11) (ci := 6) (v := .ref ((g 1))) hx hb hts hin6 hown hK hP 0 (by decide) rfl rfl 1 (by decide) (hts (.fieldLink RX6 7 "MixedBlocksModel" "s" "[I") (List.mem_of_getElem? (i := 1) rfl)) (fun _ h9 => h9) rfl dX6_isDone_1 ?_
  refine lv_iload_n hx hb dX6_isDone_4 rfl (lv_at hl 1 rfl) ?_
  refine lv_iconst (v := 1) hx hb dX6_isDone_5 (by decide) ?_
  refine va_calli (va_runS (As := [.int (nI u), .int 1]) (rest := [.ref ((g 1))]) ⟨hx, hb, hml, hown, hts⟩ (c_X6_of l u 1) (va_cwS 2 hts gX6_isDone_X6_of rfl rfl rfl (by decide +kernel) ⟨Nat.le_of_ble_eq_true rfl, Nat.le_of_ble_eq_true rfl⟩) ⟨wU_blind, fun U hU hW => ⟨rfl, trivial⟩⟩ rfl rfl hl.1 rfl (lv_room (Nat.le_of_ble_eq_true rfl)) dX6_isDone_6 ⟨Nat.zero_le _, Nat.zero_le _⟩) hS (fun q _ h => h.elim) (fun q h => h.elim) (fun r_1 uu t H_1 locs_1 ht hvm hw hB hz1 hk1 hS => ?_)
  have hP := hP.same hk1
  obtain rfl : r_1 = (nI (14 + 30 * u + 1)) := hw
  refine w_iald hx hb hK hP 1 (by decide) rfl (vp_in_nI (by omega) (by decide)) dX6_isDone_9 ?_
  rw [nI_clamp (by omega), md_g1]
  refine lv_aload_n hx hb dX6_isDone_10 rfl (lv_at hl 0 rfl) ?_
  refine va_calli (va_runV (As := []) (rest := [.int (nI K)]) ⟨hx, hb, hml, hown, hts⟩ (c_X6_all l E g th aa sv sm tx ln ro ai wr dg nb va se (va_up rv u (rvE li K go tn lo L.length w)) hnb) (cwV 0 hts gX6_isDone_X6_all rfl rfl rfl (by decide +kernel) ⟨Nat.le_of_ble_eq_true rfl, Nat.le_of_ble_eq_true rfl⟩) ⟨wS.blind, (w_recv hK hP 0 (by decide) rfl (ci := 6) rfl), fun U hU hW => wS.go hP hK hI hU hW⟩ rfl rfl hl.1 rfl (lv_room (Nat.le_of_ble_eq_true rfl)) dX6_isDone_11 ⟨Nat.zero_le _, Nat.zero_le _⟩) hS (fun q _ h => h.elim) (fun q h => h.elim) (fun r_2 uu t H_2 locs_2 ht hvm hw hB hz1 hk1 hS => ?_)
  have hP := hP.same hk1
  obtain rfl : r_2 = (nI (2 ^ nb - 1)) := hw
  refine lv_icmp_ne (tgt := 21) hx hb dX6_isDone_14 (by decide) (fun c_3 => ?_) (fun c_3 => ?_)
  · have n_3 : ¬ (K = (2 ^ nb - 1)) := fun z => c_3 ((nI_eq (a := K) (b := (2 ^ nb - 1)) (by omega) (by omega)).mpr z)
    refine lv_iconst (v := 0) hx hb dX6_isDone_21 (by decide) ?_
    exact W.zret (v := 0) hx hb hr rfl (fun t ht hW => ⟨⟨_, (), rfl, (bI_ne n_3), trivial⟩, hS.F ht⟩) hS.2.2 dX6_isDone_22
  · have n_3 : K = (2 ^ nb - 1) := (nI_eq (a := K) (b := (2 ^ nb - 1)) (by omega) (by omega)).mp c_3
    refine lv_iconst (v := 1) hx hb dX6_isDone_17 (by decide) ?_
    refine lv_goto (tgt := 22) hx hb dX6_isDone_18 (by decide) ?_
    exact W.zret (v := 1) hx hb hr rfl (fun t ht hW => ⟨⟨_, (), rfl, (bI_eq n_3), trivial⟩, hS.F ht⟩) hS.2.2 dX6_isDone_22
set_option maxHeartbeats 4000000 in
set_option maxRecDepth 100000 in
theorem c_X6_knows (l : Launch) (E : wE) (g : Nat → Nat) (th : Int32) (aa sv : Nat → Int32) (sm : Nat) (tx : Nat → Int32) (ln : Nat) (ro : Nat → Int32) (ai : Nat) (wr : Bool) (dg : Int64) (nb : Nat) (va : Nat → Int32) (se : Int32) (rv : Nat → Nat → Int32) (u : Nat) (li : Bool) (K : Nat) (go tn lo : Int32) (L : List Nat) (hu3 : u < 3) (mk : Nat) (hm : mk < 4096) : Met l yX6_knows wsX6_knows ({ frames := 1, cells := 0, slots := 0, locals := 21 }) (va_Pc [.ref ((g 0)), .int (nI u), .int (nI mk)] (wS E 6 g (fun H => moR E g th aa sv sm tx ln ro ai wr dg nb va se rv u li K go tn lo L (H)))) (va_Qv (fun (_ : Unit) => True) (fun _ t => moR E g th aa sv sm tx ln ro ai wr dg nb va se rv u li (K ||| mk) go tn lo (knW mk L) (t.heap)) (wF 6 g)) 0 0 (wF 6 g) := by
  refine Met.ofW (cc := cX6_knows) (maxL := 4) (ret := none) (by decide) rfl ?_
  intro p e s m args below meth c s₁ B hml hv
  obtain ⟨rfl, ⟨w, hP, hw, hok⟩, hK, hI⟩ := hv
  have hx := B.exec
  have hb := B.bytes
  have hr := B.returns
  have hts := atoms_spec (ws := wsX6_knows) B.pre
  have hown : s.vm.findClass RX6 = some m.cls := findClass_of_methodNamed B.named
  have hlocks := B.notSynchronized
  have hS : va_S (wF 6 g) s.heap s.heap [] := va_S.rf
  have hin6 : ∀ w ∈ wsX60, w ∈ wsX6_knows := by decide +kernel
  have hA : ∀ k, k < 6 → (wF 6 g) (g k) := wF_in
  have hl := lv_entry ([.ref ((g 0)), .int (nI u), .int (nI mk)]) (n := 4) (Nat.le_of_ble_eq_true rfl)
  rw [lg_entry_eq]
  generalize (lg_sl ([.ref ((g 0)), .int (nI u), .int (nI mk)]) ++ List.replicate (4 - (lg_sl ([.ref ((g 0)), .int (nI u), .int (nI mk)])).length) Slot.unset).toArray = ls at hl ⊢
  have hl : lv_has ls 4 [(0, .ref ((g 0))), (1, .int (nI u)), (2, .int (nI mk))] := hl
  have hP : wP E 6 g (moF E g th (mdE nb va se (va_up rv u (rvE li K go tn lo L.length w))) aa sv sm tx ln ro ai wr dg) s.heap := hP
  obtain ⟨hWl, hK12, hW12⟩ := id hok
  refine lv_aload_n hx hb dX6_knows_0 rfl (lv_at hl 0 rfl) ?_
  refine w_get (C := RX6) (T := TX6) (N := 11) (ci := 6) (v := .ref ((g 1))) hx hb hts hin6 hown hK hP 0 (by decide) rfl rfl 1 (by decide) (hts (.fieldLink RX6 7 "MixedBlocksModel" "s" "[I") (List.mem_of_getElem? (i := 1) rfl)) (fun _ h9 => h9) rfl dX6_knows_1 ?_
  refine lv_iload_n hx hb dX6_knows_4 rfl (lv_at hl 1 rfl) ?_
  refine lv_iconst (v := 1) hx hb dX6_knows_5 (by decide) ?_
  refine va_calli (va_runS (As := [.int (nI u), .int 1]) (rest := [.ref ((g 1))]) ⟨hx, hb, hml, hown, hts⟩ (c_X6_of l u 1) (va_cwS 2 hts gX6_knows_X6_of rfl rfl rfl (by decide +kernel) ⟨Nat.le_of_ble_eq_true rfl, Nat.le_of_ble_eq_true rfl⟩) ⟨wU_blind, fun U hU hW => ⟨rfl, trivial⟩⟩ rfl rfl hl.1 rfl (lv_room (Nat.le_of_ble_eq_true rfl)) dX6_knows_6 ⟨Nat.zero_le _, Nat.zero_le _⟩) hS (fun q _ h => h.elim) (fun q h => h.elim) (fun r_1 uu t H_1 locs_1 ht hvm hw hB hz1 hk1 hS => ?_)
  have hP := hP.same hk1
  obtain rfl : r_1 = (nI (14 + 30 * u + 1)) := hw
  refine lv_dup2_11 hx hb dX6_knows_9 rfl rfl ?_
  refine w_iald hx hb hK hP 1 (by decide) rfl (vp_in_nI (by omega) (by decide)) dX6_knows_10 ?_
  rw [nI_clamp (by omega), md_g1]
  refine lv_iload_n hx hb dX6_knows_11 rfl (lv_at hl 2 rfl) ?_
  refine lv_ior hx hb dX6_knows_12 ?_
  rw [show (nI K) ||| (nI mk) = nI (K ||| mk) from nI_or K mk]
  refine w_iast hx hb hK hP hI hA hS 1 (by decide) rfl (vp_in_nI (by omega) (by decide)) dX6_knows_13 (moF E g th (upd (mdE nb va se (va_up rv u (rvE li K go tn lo L.length w))) (14 + 30 * u + 1) (nI (K ||| mk))) aa sv sm tx ln ro ai wr dg) (congrArg (fun z : Nat => (Sum.inl (E.2.1, 104, Sum.inl (upd (mdE nb va se (va_up rv u (rvE li K go tn lo L.length w))) z (nI (K ||| mk)))) : va_E)) (nI_clamp (by omega)).symm) mo_ne1 (fun H_2 locs_2 hP hS => ?_)
  rw [show (upd (mdE nb va se (va_up rv u (rvE li K go tn lo L.length w))) (14 + 30 * u + 1) (nI (K ||| mk))) = (mdE nb va se (va_up rv u (rvE li (K ||| mk) go tn lo L.length w))) from md_u1 (K' := (K ||| mk))] at hP
  refine lv_iconst (v := 0) hx hb dX6_knows_14 (by decide) ?_
  refine lv_istore_n (lv' := [(3, .int 0), (0, .ref ((g 0))), (1, .int (nI u)), (2, .int (nI mk))]) hx hb dX6_knows_15 rfl hl (by decide) rfl (fun ls hl => ?_)
  have L16 : ∀ (k : Nat) (i : Nat) (w2 : Nat → Int32) (H : Heap) (locs : List Loc) (ls : Array Slot), i + k = L.length → (∀ j, j < L.length → w2 j = if j < i then nI (andn (L.getD j 0) mk) else nI (L.getD j 0)) → wP E 6 g (moF E g th (mdE nb va se (va_up rv u (rvE li (K ||| mk) go tn lo L.length w2))) aa sv sm tx ln ro ai wr dg) H → va_S (wF 6 g) s.heap H locs → lv_has ls 4 [(3, .int (nI i)), (0, .ref ((g 0))), (1, .int (nI u)), (2, .int (nI mk))] → W p l e (headSpec wsX6_knows ({ frames := 1, cells := 0, slots := 0, locals := 21 })).room s m ([.ref ((g 0)), .int (nI u), .int (nI mk)] : List Value).toArray below meth c H locs 0 0 (MQ below (va_Qv (fun (_ : Unit) => True) (fun _ t => moR E g th aa sv sm tx ln ro ai wr dg nb va se rv u li (K ||| mk) go tn lo (knW mk L) (t.heap)) (wF 6 g)) ([.ref ((g 0)), .int (nI u), .int (nI mk)] : List Value).toArray s 0 0 (wF 6 g)) (F0 m 16 ls []) := by
    intro k
    induction k with
    | zero =>
      intro i w2 H locs ls hi hl2 hP hS hl
      refine lv_iload_n hx hb dX6_knows_16 rfl (lv_at hl 0 rfl) ?_
      refine lv_aload_n hx hb dX6_knows_17 rfl (lv_at hl 1 rfl) ?_
      refine w_get (C := RX6) (T := TX6) (N := 11) (ci := 6) (v := .ref ((g 1))) hx hb hts hin6 hown hK hP 0 (by decide) rfl rfl 1 (by decide) (hts (.fieldLink RX6 7 "MixedBlocksModel" "s" "[I") (List.mem_of_getElem? (i := 1) rfl)) (fun _ h9 => h9) rfl dX6_knows_18 ?_
      refine lv_iload_n hx hb dX6_knows_21 rfl (lv_at hl 2 rfl) ?_
      refine lv_iconst (v := 5) hx hb dX6_knows_22 (by decide) ?_
      refine va_calli (va_runS (As := [.int (nI u), .int 5]) (rest := [.ref ((g 1)), .int (nI i)]) ⟨hx, hb, hml, hown, hts⟩ (c_X6_of l u 5) (va_cwS 2 hts gX6_knows_X6_of rfl rfl rfl (by decide +kernel) ⟨Nat.le_of_ble_eq_true rfl, Nat.le_of_ble_eq_true rfl⟩) ⟨wU_blind, fun U hU hW => ⟨rfl, trivial⟩⟩ rfl rfl hl.1 rfl (lv_room (Nat.le_of_ble_eq_true rfl)) dX6_knows_23 ⟨Nat.zero_le _, Nat.zero_le _⟩) hS (fun q _ h => h.elim) (fun q h => h.elim) (fun r_3 uu t H_3 locs_3 ht hvm hw hB hz1 hk1 hS => ?_)
      have hP := hP.same hk1
      obtain rfl : r_3 = (nI (14 + 30 * u + 5)) := hw
      refine w_iald hx hb hK hP 1 (by decide) rfl (vp_in_nI (by omega) (by decide)) dX6_knows_26 ?_
      rw [nI_clamp (by omega), md_g5]
      refine lv_icmp_ge (tgt := 55) hx hb dX6_knows_27 (by decide) (fun c_4 => ?_) (fun c_4 => ?_)
      · have n_4 : L.length ≤ i := (nI_leI (a := L.length) (b := i) (by omega) (by omega)).mp c_4
        exact W.vret hx hb hr (fun t ht hW => ⟨⟨(), rfl, trivial, (by show moR E g th aa sv sm tx ln ro ai wr dg nb va se rv u li (K ||| mk) go tn lo (knW mk L) (t.heap); rw [ht]; exact ⟨w2, (by rw [knW_len]; exact hP), knW_end (by omega) hl2, knW_ok hok hm⟩)⟩, hS.F ht⟩) hS.2.2 dX6_knows_55
      · have n_4 : ¬ (L.length ≤ i) := fun z => c_4 ((nI_leI (a := L.length) (b := i) (by omega) (by omega)).mpr z)
        exfalso
        omega
    | succ k ihk =>
      intro i w2 H locs ls hi hl2 hP hS hl
      refine lv_iload_n hx hb dX6_knows_16 rfl (lv_at hl 0 rfl) ?_
      refine lv_aload_n hx hb dX6_knows_17 rfl (lv_at hl 1 rfl) ?_
      refine w_get (C := RX6) (T := TX6) (N := 11) (ci := 6) (v := .ref ((g 1))) hx hb hts hin6 hown hK hP 0 (by decide) rfl rfl 1 (by decide) (hts (.fieldLink RX6 7 "MixedBlocksModel" "s" "[I") (List.mem_of_getElem? (i := 1) rfl)) (fun _ h9 => h9) rfl dX6_knows_18 ?_
      refine lv_iload_n hx hb dX6_knows_21 rfl (lv_at hl 2 rfl) ?_
      refine lv_iconst (v := 5) hx hb dX6_knows_22 (by decide) ?_
      refine va_calli (va_runS (As := [.int (nI u), .int 5]) (rest := [.ref ((g 1)), .int (nI i)]) ⟨hx, hb, hml, hown, hts⟩ (c_X6_of l u 5) (va_cwS 2 hts gX6_knows_X6_of rfl rfl rfl (by decide +kernel) ⟨Nat.le_of_ble_eq_true rfl, Nat.le_of_ble_eq_true rfl⟩) ⟨wU_blind, fun U hU hW => ⟨rfl, trivial⟩⟩ rfl rfl hl.1 rfl (lv_room (Nat.le_of_ble_eq_true rfl)) dX6_knows_23 ⟨Nat.zero_le _, Nat.zero_le _⟩) hS (fun q _ h => h.elim) (fun q h => h.elim) (fun r_5 uu t H_5 locs_5 ht hvm hw hB hz1 hk1 hS => ?_)
      have hP := hP.same hk1
      obtain rfl : r_5 = (nI (14 + 30 * u + 5)) := hw
      refine w_iald hx hb hK hP 1 (by decide) rfl (vp_in_nI (by omega) (by decide)) dX6_knows_26 ?_
      rw [nI_clamp (by omega), md_g5]
      refine lv_icmp_ge (tgt := 55) hx hb dX6_knows_27 (by decide) (fun c_6 => ?_) (fun c_6 => ?_)
      · have n_6 : L.length ≤ i := (nI_leI (a := L.length) (b := i) (by omega) (by omega)).mp c_6
        exfalso
        omega
      · have n_6 : ¬ (L.length ≤ i) := fun z => c_6 ((nI_leI (a := L.length) (b := i) (by omega) (by omega)).mpr z)
        refine lv_aload_n hx hb dX6_knows_30 rfl (lv_at hl 1 rfl) ?_
        refine w_get (C := RX6) (T := TX6) (N := 11) (ci := 6) (v := .ref ((g 1))) hx hb hts hin6 hown hK hP 0 (by decide) rfl rfl 1 (by decide) (hts (.fieldLink RX6 7 "MixedBlocksModel" "s" "[I") (List.mem_of_getElem? (i := 1) rfl)) (fun _ h9 => h9) rfl dX6_knows_31 ?_
        refine lv_iload_n hx hb dX6_knows_34 rfl (lv_at hl 2 rfl) ?_
        refine lv_bipush (v := 6) hx hb dX6_knows_35 (by decide) ?_
        refine lv_iload_n hx hb dX6_knows_37 rfl (lv_at hl 0 rfl) ?_
        refine lv_iadd hx hb dX6_knows_38 ?_
        rw [show 6 + (nI i) = nI (6 + i) from nI_add 6 i]
        refine va_calli (va_runS (As := [.int (nI u), .int (nI (6 + i))]) (rest := [.ref ((g 1))]) ⟨hx, hb, hml, hown, hts⟩ (c_X6_of l u (6 + i)) (va_cwS 2 hts gX6_knows_X6_of rfl rfl rfl (by decide +kernel) ⟨Nat.le_of_ble_eq_true rfl, Nat.le_of_ble_eq_true rfl⟩) ⟨wU_blind, fun U hU hW => ⟨rfl, trivial⟩⟩ rfl rfl hl.1 rfl (lv_room (Nat.le_of_ble_eq_true rfl)) dX6_knows_39 ⟨Nat.zero_le _, Nat.zero_le _⟩) hS (fun q _ h => h.elim) (fun q h => h.elim) (fun r_7 uu t H_7 locs_7 ht hvm hw hB hz1 hk1 hS => ?_)
        have hP := hP.same hk1
        obtain rfl : r_7 = (nI (14 + 30 * u + (6 + i))) := hw
        refine lv_dup2_11 hx hb dX6_knows_42 rfl rfl ?_
        refine w_iald hx hb hK hP 1 (by decide) rfl (vp_in_nI (by omega) (by decide)) dX6_knows_43 ?_
        rw [nI_clamp (by omega), md_gw (k := i) (by omega)]
        have hwb_8 := hok.2.2 (i) (by omega)
        rw [hl2 _ (by omega), if_neg (by omega)]
        refine lv_iload_n hx hb dX6_knows_44 rfl (lv_at hl 3 rfl) ?_
        refine lv_iconst (v := (-1)) hx hb dX6_knows_45 (by decide) ?_
        refine lv_ixor hx hb dX6_knows_46 ?_
        refine lv_iand hx hb dX6_knows_47 ?_
        rw [show (nI (L.getD i 0)) &&& ((nI mk) ^^^ (-1)) = nI (andn (L.getD i 0) mk) from nI_andn (L.getD i 0) mk]
        refine w_iast hx hb hK hP hI hA hS 1 (by decide) rfl (vp_in_nI (by omega) (by decide)) dX6_knows_48 (moF E g th (upd (mdE nb va se (va_up rv u (rvE li (K ||| mk) go tn lo L.length w2))) (14 + 30 * u + (6 + i)) (nI (andn (L.getD i 0) mk))) aa sv sm tx ln ro ai wr dg) (congrArg (fun z : Nat => (Sum.inl (E.2.1, 104, Sum.inl (upd (mdE nb va se (va_up rv u (rvE li (K ||| mk) go tn lo L.length w2))) z (nI (andn (L.getD i 0) mk)))) : va_E)) (nI_clamp (by omega)).symm) mo_ne1 (fun H_9 locs_9 hP hS => ?_)
        rw [show (upd (mdE nb va se (va_up rv u (rvE li (K ||| mk) go tn lo L.length w2))) (14 + 30 * u + (6 + i)) (nI (andn (L.getD i 0) mk))) = (mdE nb va se (va_up rv u (rvE li (K ||| mk) go tn lo L.length (upd w2 i (nI (andn (L.getD i 0) mk)))))) from md_uw (k := i) (by omega)] at hP
        refine lv_iinc (v := (nI (i + 1))) (lv' := [(3, .int (nI (i + 1))), (0, .ref ((g 0))), (1, .int (nI u)), (2, .int (nI mk))]) hx hb dX6_knows_49 hl (k := 0) rfl (nI_1 _) (by decide) rfl (fun ls hl => ?_)
        refine lv_goto (tgt := 16) hx hb dX6_knows_52 (by decide) ?_
        exact ihk (i + 1) (upd w2 i (nI (andn (L.getD i 0) mk))) _ _ ls (by omega) (knW_st hl2) hP hS (lv_sub hl [0, 1, 2, 3] rfl)
  exact L16 L.length 0 w _ _ ls (Nat.zero_add _) (fun j hj => by rw [if_neg (Nat.not_lt_zero j)]; exact hw j hj) hP hS (lv_sub hl [0, 1, 2, 3] rfl)
set_option maxHeartbeats 4000000 in
set_option maxRecDepth 100000 in
theorem c_X6_first (l : Launch) (E : wE) (g : Nat → Nat) (th : Int32) (aa sv : Nat → Int32) (sm : Nat) (tx : Nat → Int32) (ln : Nat) (ro : Nat → Int32) (ai : Nat) (wr : Bool) (dg : Int64) (nb : Nat) (va : Nat → Int32) (se : Int32) (rv : Nat → Nat → Int32) (u : Nat) (li : Bool) (K : Nat) (go tn lo : Int32) (L : List Nat) (hu3 : u < 3)  : Met l yX6_first wsX6_first ({ frames := 1, cells := 0, slots := 0, locals := 22 }) (va_Pc [.ref ((g 0)), .int (nI u)] (wS E 6 g (fun H => moR E g th aa sv sm tx ln ro ai wr dg nb va se rv u li K go tn lo L (H)))) (va_Qi (fun (r : Int32) (_ : Unit) => r = fsMI L) (fun _ t => True) wN) 0 0 wN := by
  refine Met.ofW (cc := cX6_first) (maxL := 3) (ret := (some .int)) (by decide) rfl ?_
  intro p e s m args below meth c s₁ B hml hv
  obtain ⟨rfl, ⟨w, hP, hw, hok⟩, hK, hI⟩ := hv
  have hx := B.exec
  have hb := B.bytes
  have hr := B.returns
  have hts := atoms_spec (ws := wsX6_first) B.pre
  have hown : s.vm.findClass RX6 = some m.cls := findClass_of_methodNamed B.named
  have hlocks := B.notSynchronized
  have hS : va_S wN s.heap s.heap [] := va_S.rf
  have hin6 : ∀ w ∈ wsX60, w ∈ wsX6_first := by decide +kernel
  have hl := lv_entry ([.ref ((g 0)), .int (nI u)]) (n := 3) (Nat.le_of_ble_eq_true rfl)
  rw [lg_entry_eq]
  generalize (lg_sl ([.ref ((g 0)), .int (nI u)]) ++ List.replicate (3 - (lg_sl ([.ref ((g 0)), .int (nI u)])).length) Slot.unset).toArray = ls at hl ⊢
  have hl : lv_has ls 3 [(0, .ref ((g 0))), (1, .int (nI u))] := hl
  have hP : wP E 6 g (moF E g th (mdE nb va se (va_up rv u (rvE li K go tn lo L.length w))) aa sv sm tx ln ro ai wr dg) s.heap := hP
  obtain ⟨hWl, hK12, hW12⟩ := id hok
  refine lv_iconst (v := 0) hx hb dX6_first_0 (by decide) ?_
  refine lv_istore_n (lv' := [(2, .int 0), (0, .ref ((g 0))), (1, .int (nI u))]) hx hb dX6_first_1 rfl hl (by decide) rfl (fun ls hl => ?_)
  have L2 : ∀ (k : Nat) (i : Nat) (H : Heap) (locs : List Loc) (ls : Array Slot), i + k = L.length → (∀ j, j < i → ¬ pc (L.getD j 0) < 2) → wP E 6 g (moF E g th (mdE nb va se (va_up rv u (rvE li K go tn lo L.length w))) aa sv sm tx ln ro ai wr dg) H → va_S wN s.heap H locs → lv_has ls 3 [(2, .int (nI i)), (0, .ref ((g 0))), (1, .int (nI u))] → W p l e (headSpec wsX6_first ({ frames := 1, cells := 0, slots := 0, locals := 22 })).room s m ([.ref ((g 0)), .int (nI u)] : List Value).toArray below meth c H locs 0 0 (MQ below (va_Qi (fun (r : Int32) (_ : Unit) => r = fsMI L) (fun _ t => True) wN) ([.ref ((g 0)), .int (nI u)] : List Value).toArray s 0 0 wN) (F0 m 2 ls []) := by
    intro k
    induction k with
    | zero =>
      intro i H locs ls hi hno hP hS hl
      refine lv_iload_n hx hb dX6_first_2 rfl (lv_at hl 0 rfl) ?_
      refine lv_aload_n hx hb dX6_first_3 rfl (lv_at hl 1 rfl) ?_
      refine w_get (C := RX6) (T := TX6) (N := 11) (ci := 6) (v := .ref ((g 1))) hx hb hts hin6 hown hK hP 0 (by decide) rfl rfl 1 (by decide) (hts (.fieldLink RX6 7 "MixedBlocksModel" "s" "[I") (List.mem_of_getElem? (i := 1) rfl)) (fun _ h9 => h9) rfl dX6_first_4 ?_
      refine lv_iload_n hx hb dX6_first_7 rfl (lv_at hl 2 rfl) ?_
      refine lv_iconst (v := 5) hx hb dX6_first_8 (by decide) ?_
      refine va_calli (va_runS (As := [.int (nI u), .int 5]) (rest := [.ref ((g 1)), .int (nI i)]) ⟨hx, hb, hml, hown, hts⟩ (c_X6_of l u 5) (va_cwS 2 hts gX6_first_X6_of rfl rfl rfl (by decide +kernel) ⟨Nat.le_of_ble_eq_true rfl, Nat.le_of_ble_eq_true rfl⟩) ⟨wU_blind, fun U hU hW => ⟨rfl, trivial⟩⟩ rfl rfl hl.1 rfl (lv_room (Nat.le_of_ble_eq_true rfl)) dX6_first_9 ⟨Nat.zero_le _, Nat.zero_le _⟩) hS (fun q _ h => h.elim) (fun q h => h.elim) (fun r_1 uu t H_1 locs_1 ht hvm hw hB hz1 hk1 hS => ?_)
      have hP := hP.same hk1
      obtain rfl : r_1 = (nI (14 + 30 * u + 5)) := hw
      refine w_iald hx hb hK hP 1 (by decide) rfl (vp_in_nI (by omega) (by decide)) dX6_first_12 ?_
      rw [nI_clamp (by omega), md_g5]
      refine lv_icmp_ge (tgt := 44) hx hb dX6_first_13 (by decide) (fun c_2 => ?_) (fun c_2 => ?_)
      · have n_2 : L.length ≤ i := (nI_leI (a := L.length) (b := i) (by omega) (by omega)).mp c_2
        refine lv_iconst (v := (-1)) hx hb dX6_first_44 (by decide) ?_
        exact W.iret (v := (-1)) hx hb hr (fun t ht hW => ⟨⟨_, (), rfl, (fsMI_n (fsM_none (fun j hj => hno j (by omega)))).symm, trivial⟩, hS.F ht⟩) hS.2.2 dX6_first_45
      · have n_2 : ¬ (L.length ≤ i) := fun z => c_2 ((nI_leI (a := L.length) (b := i) (by omega) (by omega)).mpr z)
        exfalso
        omega
    | succ k ihk =>
      intro i H locs ls hi hno hP hS hl
      refine lv_iload_n hx hb dX6_first_2 rfl (lv_at hl 0 rfl) ?_
      refine lv_aload_n hx hb dX6_first_3 rfl (lv_at hl 1 rfl) ?_
      refine w_get (C := RX6) (T := TX6) (N := 11) (ci := 6) (v := .ref ((g 1))) hx hb hts hin6 hown hK hP 0 (by decide) rfl rfl 1 (by decide) (hts (.fieldLink RX6 7 "MixedBlocksModel" "s" "[I") (List.mem_of_getElem? (i := 1) rfl)) (fun _ h9 => h9) rfl dX6_first_4 ?_
      refine lv_iload_n hx hb dX6_first_7 rfl (lv_at hl 2 rfl) ?_
      refine lv_iconst (v := 5) hx hb dX6_first_8 (by decide) ?_
      refine va_calli (va_runS (As := [.int (nI u), .int 5]) (rest := [.ref ((g 1)), .int (nI i)]) ⟨hx, hb, hml, hown, hts⟩ (c_X6_of l u 5) (va_cwS 2 hts gX6_first_X6_of rfl rfl rfl (by decide +kernel) ⟨Nat.le_of_ble_eq_true rfl, Nat.le_of_ble_eq_true rfl⟩) ⟨wU_blind, fun U hU hW => ⟨rfl, trivial⟩⟩ rfl rfl hl.1 rfl (lv_room (Nat.le_of_ble_eq_true rfl)) dX6_first_9 ⟨Nat.zero_le _, Nat.zero_le _⟩) hS (fun q _ h => h.elim) (fun q h => h.elim) (fun r_3 uu t H_3 locs_3 ht hvm hw hB hz1 hk1 hS => ?_)
      have hP := hP.same hk1
      obtain rfl : r_3 = (nI (14 + 30 * u + 5)) := hw
      refine w_iald hx hb hK hP 1 (by decide) rfl (vp_in_nI (by omega) (by decide)) dX6_first_12 ?_
      rw [nI_clamp (by omega), md_g5]
      refine lv_icmp_ge (tgt := 44) hx hb dX6_first_13 (by decide) (fun c_4 => ?_) (fun c_4 => ?_)
      · have n_4 : L.length ≤ i := (nI_leI (a := L.length) (b := i) (by omega) (by omega)).mp c_4
        exfalso
        omega
      · have n_4 : ¬ (L.length ≤ i) := fun z => c_4 ((nI_leI (a := L.length) (b := i) (by omega) (by omega)).mpr z)
        refine lv_aload_n hx hb dX6_first_16 rfl (lv_at hl 1 rfl) ?_
        refine w_get (C := RX6) (T := TX6) (N := 11) (ci := 6) (v := .ref ((g 1))) hx hb hts hin6 hown hK hP 0 (by decide) rfl rfl 1 (by decide) (hts (.fieldLink RX6 7 "MixedBlocksModel" "s" "[I") (List.mem_of_getElem? (i := 1) rfl)) (fun _ h9 => h9) rfl dX6_first_17 ?_
        refine lv_iload_n hx hb dX6_first_20 rfl (lv_at hl 2 rfl) ?_
        refine lv_bipush (v := 6) hx hb dX6_first_21 (by decide) ?_
        refine lv_iload_n hx hb dX6_first_23 rfl (lv_at hl 0 rfl) ?_
        refine lv_iadd hx hb dX6_first_24 ?_
        rw [show 6 + (nI i) = nI (6 + i) from nI_add 6 i]
        refine va_calli (va_runS (As := [.int (nI u), .int (nI (6 + i))]) (rest := [.ref ((g 1))]) ⟨hx, hb, hml, hown, hts⟩ (c_X6_of l u (6 + i)) (va_cwS 2 hts gX6_first_X6_of rfl rfl rfl (by decide +kernel) ⟨Nat.le_of_ble_eq_true rfl, Nat.le_of_ble_eq_true rfl⟩) ⟨wU_blind, fun U hU hW => ⟨rfl, trivial⟩⟩ rfl rfl hl.1 rfl (lv_room (Nat.le_of_ble_eq_true rfl)) dX6_first_25 ⟨Nat.zero_le _, Nat.zero_le _⟩) hS (fun q _ h => h.elim) (fun q h => h.elim) (fun r_5 uu t H_5 locs_5 ht hvm hw hB hz1 hk1 hS => ?_)
        have hP := hP.same hk1
        obtain rfl : r_5 = (nI (14 + 30 * u + (6 + i))) := hw
        refine w_iald hx hb hK hP 1 (by decide) rfl (vp_in_nI (by omega) (by decide)) dX6_first_28 ?_
        rw [nI_clamp (by omega), md_gw (k := i) (by omega)]
        have hwb_6 := hok.2.2 (i) (by omega)
        rw [hw _ (by omega)]
        refine va_calli (va_runS (As := [.int (nI (L.getD i 0))]) (rest := []) ⟨hx, hb, hml, hown, hts⟩ (c_X6_bits l (L.getD i 0) (by omega)) (va_cwS 1 hts gX6_first_X6_bits rfl rfl rfl (by decide +kernel) ⟨Nat.le_of_ble_eq_true rfl, Nat.le_of_ble_eq_true rfl⟩) ⟨wU_blind, fun U hU hW => ⟨rfl, trivial⟩⟩ rfl rfl hl.1 rfl (lv_room (Nat.le_of_ble_eq_true rfl)) dX6_first_29 ⟨Nat.zero_le _, Nat.zero_le _⟩) hS (fun q _ h => h.elim) (fun q h => h.elim) (fun r_8 uu t H_8 locs_8 ht hvm hw hB hz1 hk1 hS => ?_)
        have hP := hP.same hk1
        have hpl_7 := pc_le (L.getD i 0)
        obtain rfl : r_8 = (nI (pc (L.getD i 0))) := hw
        refine lv_iconst (v := 2) hx hb dX6_first_32 (by decide) ?_
        refine lv_icmp_ge (tgt := 38) hx hb dX6_first_33 (by decide) (fun c_9 => ?_) (fun c_9 => ?_)
        · have n_9 : 2 ≤ (pc (L.getD i 0)) := (nI_leI (a := 2) (b := (pc (L.getD i 0))) (by omega) (by omega)).mp c_9
          refine lv_iinc (v := (nI (i + 1))) (lv' := [(2, .int (nI (i + 1))), (0, .ref ((g 0))), (1, .int (nI u))]) hx hb dX6_first_38 hl (k := 0) rfl (nI_1 _) (by decide) rfl (fun ls hl => ?_)
          refine lv_goto (tgt := 2) hx hb dX6_first_41 (by decide) ?_
          exact ihk (i + 1) _ _ ls (by omega) (fun j hj => by rcases Nat.lt_or_ge j i with q | q; exact hno j q; rw [show j = i by omega]; omega) hP hS (lv_sub hl [0, 1, 2] rfl)
        · have n_9 : ¬ (2 ≤ (pc (L.getD i 0))) := fun z => c_9 ((nI_leI (a := 2) (b := (pc (L.getD i 0))) (by omega) (by omega)).mpr z)
          refine lv_iload_n hx hb dX6_first_36 rfl (lv_at hl 0 rfl) ?_
          exact W.iret (v := (nI i)) hx hb hr (fun t ht hW => ⟨⟨_, (), rfl, (fsMI_s (fsM_some (by omega) (by omega) hno)).symm, trivial⟩, hS.F ht⟩) hS.2.2 dX6_first_37
  exact L2 L.length 0 _ _ ls (Nat.zero_add _) (fun j hj => absurd hj (Nat.not_lt_zero j)) hP hS (lv_sub hl [0, 1, 2] rfl)
set_option maxHeartbeats 4000000 in
set_option maxRecDepth 100000 in
theorem c_X6_peel (l : Launch) (E : wE) (g : Nat → Nat) (th : Int32) (aa sv : Nat → Int32) (sm : Nat) (tx : Nat → Int32) (ln : Nat) (ro : Nat → Int32) (ai : Nat) (wr : Bool) (dg : Int64) (nb : Nat) (va : Nat → Int32) (se : Int32) (rv : Nat → Nat → Int32) (u : Nat) (li : Bool) (K : Nat) (go tn lo : Int32) (L : List Nat) (hu3 : u < 3)  : Met l yX6_peel wsX6_peel ({ frames := 2, cells := 0, slots := 0, locals := 44 }) (va_Pc [.ref ((g 0)), .int (nI u)] (wS E 6 g (fun H => moR E g th aa sv sm tx ln ro ai wr dg nb va se rv u li K go tn lo L (H)))) (va_Qv (fun (_ : Unit) => True) (fun _ t => moR E g th aa sv sm tx ln ro ai wr dg nb va se rv u li ((plM L.length K tn L).1) go ((plM L.length K tn L).2.1) lo ((plM L.length K tn L).2.2) (t.heap)) (wF 6 g)) 0 0 (wF 6 g) := by
  refine Met.ofW (cc := cX6_peel) (maxL := 5) (ret := none) (by decide) rfl ?_
  intro p e s m args below meth c s₁ B hml hv
  obtain ⟨rfl, ⟨w, hP, hw, hok⟩, hK, hI⟩ := hv
  have hx := B.exec
  have hb := B.bytes
  have hr := B.returns
  have hts := atoms_spec (ws := wsX6_peel) B.pre
  have hown : s.vm.findClass RX6 = some m.cls := findClass_of_methodNamed B.named
  have hlocks := B.notSynchronized
  have hS : va_S (wF 6 g) s.heap s.heap [] := va_S.rf
  have hin6 : ∀ w ∈ wsX60, w ∈ wsX6_peel := by decide +kernel
  have hA : ∀ k, k < 6 → (wF 6 g) (g k) := wF_in
  have hl := lv_entry ([.ref ((g 0)), .int (nI u)]) (n := 5) (Nat.le_of_ble_eq_true rfl)
  rw [lg_entry_eq]
  generalize (lg_sl ([.ref ((g 0)), .int (nI u)]) ++ List.replicate (5 - (lg_sl ([.ref ((g 0)), .int (nI u)])).length) Slot.unset).toArray = ls at hl ⊢
  have hl : lv_has ls 5 [(0, .ref ((g 0))), (1, .int (nI u))] := hl
  have hP : wP E 6 g (moF E g th (mdE nb va se (va_up rv u (rvE li K go tn lo L.length w))) aa sv sm tx ln ro ai wr dg) s.heap := hP
  obtain ⟨hWl, hK12, hW12⟩ := id hok
  refine lv_aload_n hx hb dX6_peel_0 rfl (lv_at hl 0 rfl) ?_
  refine lv_iload_n hx hb dX6_peel_1 rfl (lv_at hl 1 rfl) ?_
  refine va_calli (va_runV (As := [.int (nI u)]) (rest := []) ⟨hx, hb, hml, hown, hts⟩ (c_X6_first l E g th aa sv sm tx ln ro ai wr dg nb va se rv u li K go tn lo L hu3 ) (cwV 1 hts gX6_peel_X6_first rfl rfl rfl (by decide +kernel) ⟨Nat.le_of_ble_eq_true rfl, Nat.le_of_ble_eq_true rfl⟩) ⟨wS.blind, (w_recv hK hP 0 (by decide) rfl (ci := 6) rfl), fun U hU hW => wS.go ⟨_, hP, hw, hok⟩ hK hI hU hW⟩ rfl rfl hl.1 rfl (lv_room (Nat.le_of_ble_eq_true rfl)) dX6_peel_2 ⟨Nat.zero_le _, Nat.zero_le _⟩) hS (fun q _ h => h.elim) (fun q h => h.elim) (fun r_1 uu t H_1 locs_1 ht hvm hw hB hz1 hk1 hS => ?_)
  have hP := hP.same hk1
  obtain rfl : r_1 = (fsMI L) := hw
  refine lv_istore_n (lv' := [(2, .int ((fsMI L))), (0, .ref ((g 0))), (1, .int (nI u))]) hx hb dX6_peel_5 rfl hl (by decide) rfl (fun ls hl => ?_)
  have L6 : ∀ (k : Nat) (K2 : Nat) (tn2 : Int32) (L2 : List Nat) (w2 : Nat → Int32) (H : Heap) (locs : List Loc) (ls : Array Slot), L2.length = k → plM k K2 tn2 L2 = (plM L.length K tn L) → wtL L2 w2 → wtO K2 L2 → wP E 6 g (moF E g th (mdE nb va se (va_up rv u (rvE li K2 go tn2 lo L2.length w2))) aa sv sm tx ln ro ai wr dg) H → va_S (wF 6 g) s.heap H locs → lv_has ls 5 [(2, .int ((fsMI L2))), (0, .ref ((g 0))), (1, .int (nI u))] → W p l e (headSpec wsX6_peel ({ frames := 2, cells := 0, slots := 0, locals := 44 })).room s m ([.ref ((g 0)), .int (nI u)] : List Value).toArray below meth c H locs 0 0 (MQ below (va_Qv (fun (_ : Unit) => True) (fun _ t => moR E g th aa sv sm tx ln ro ai wr dg nb va se rv u li ((plM L.length K tn L).1) go ((plM L.length K tn L).2.1) lo ((plM L.length K tn L).2.2) (t.heap)) (wF 6 g)) ([.ref ((g 0)), .int (nI u)] : List Value).toArray s 0 0 (wF 6 g)) (F0 m 6 ls []) := by
    intro k
    induction k with
    | zero =>
      intro K2 tn2 L2 w2 H locs ls hL hres hw2 hok2 hP hS hl
      obtain ⟨h2l, h2k, h2w⟩ := id hok2
      cases hfs : fsM L2 with
      | none =>
        rw [fsMI_n hfs] at hl
        refine lv_iload_n hx hb dX6_peel_6 rfl (lv_at hl 0 rfl) ?_
        refine lv_iconst (v := (-1)) hx hb dX6_peel_7 (by decide) ?_
        refine lv_icmp_eq (tgt := 130) hx hb dX6_peel_8 (by decide) (fun c_2 => ?_) (fun c_2 => ?_)
        · have hq := hres.symm.trans (plM_none hfs)
          exact W.vret hx hb hr (fun t ht hW => ⟨⟨(), rfl, trivial, (by show moR E g th aa sv sm tx ln ro ai wr dg nb va se rv u li ((plM L.length K tn L).1) go ((plM L.length K tn L).2.1) lo ((plM L.length K tn L).2.2) (t.heap); rw [ht, hq]; exact ⟨w2, hP, hw2, hok2⟩)⟩, hS.F ht⟩) hS.2.2 dX6_peel_130
        · exact absurd rfl c_2
      | some u0 =>
        have hp := fsM_lt hfs
        rw [fsMI_s hfs] at hl
        refine lv_iload_n hx hb dX6_peel_6 rfl (lv_at hl 0 rfl) ?_
        refine lv_iconst (v := (-1)) hx hb dX6_peel_7 (by decide) ?_
        refine lv_icmp_eq (tgt := 130) hx hb dX6_peel_8 (by decide) (fun c_3 => ?_) (fun c_3 => ?_)
        · exact absurd c_3 (nI_ne_m1 (by omega))
        · exfalso
          omega
    | succ k ihk =>
      intro K2 tn2 L2 w2 H locs ls hL hres hw2 hok2 hP hS hl
      obtain ⟨h2l, h2k, h2w⟩ := id hok2
      cases hfs : fsM L2 with
      | none =>
        rw [fsMI_n hfs] at hl
        refine lv_iload_n hx hb dX6_peel_6 rfl (lv_at hl 0 rfl) ?_
        refine lv_iconst (v := (-1)) hx hb dX6_peel_7 (by decide) ?_
        refine lv_icmp_eq (tgt := 130) hx hb dX6_peel_8 (by decide) (fun c_4 => ?_) (fun c_4 => ?_)
        · have hq := hres.symm.trans (plM_none hfs)
          exact W.vret hx hb hr (fun t ht hW => ⟨⟨(), rfl, trivial, (by show moR E g th aa sv sm tx ln ro ai wr dg nb va se rv u li ((plM L.length K tn L).1) go ((plM L.length K tn L).2.1) lo ((plM L.length K tn L).2.2) (t.heap); rw [ht, hq]; exact ⟨w2, hP, hw2, hok2⟩)⟩, hS.F ht⟩) hS.2.2 dX6_peel_130
        · exact absurd rfl c_4
      | some u0 =>
        have hp := fsM_lt hfs
        rw [fsMI_s hfs] at hl
        refine lv_iload_n hx hb dX6_peel_6 rfl (lv_at hl 0 rfl) ?_
        refine lv_iconst (v := (-1)) hx hb dX6_peel_7 (by decide) ?_
        refine lv_icmp_eq (tgt := 130) hx hb dX6_peel_8 (by decide) (fun c_5 => ?_) (fun c_5 => ?_)
        · exact absurd c_5 (nI_ne_m1 (by omega))
        · have hpo := Nat.lt_of_lt_of_le hp h2l
          refine lv_aload_n hx hb dX6_peel_11 rfl (lv_at hl 1 rfl) ?_
          refine w_get (C := RX6) (T := TX6) (N := 11) (ci := 6) (v := .ref ((g 1))) hx hb hts hin6 hown hK hP 0 (by decide) rfl rfl 1 (by decide) (hts (.fieldLink RX6 7 "MixedBlocksModel" "s" "[I") (List.mem_of_getElem? (i := 1) rfl)) (fun _ h9 => h9) rfl dX6_peel_12 ?_
          refine lv_iload_n hx hb dX6_peel_15 rfl (lv_at hl 2 rfl) ?_
          refine lv_bipush (v := 6) hx hb dX6_peel_16 (by decide) ?_
          refine lv_iload_n hx hb dX6_peel_18 rfl (lv_at hl 0 rfl) ?_
          refine lv_iadd hx hb dX6_peel_19 ?_
          rw [show 6 + (nI u0) = nI (6 + u0) from nI_add 6 u0]
          refine va_calli (va_runS (As := [.int (nI u), .int (nI (6 + u0))]) (rest := [.ref ((g 1))]) ⟨hx, hb, hml, hown, hts⟩ (c_X6_of l u (6 + u0)) (va_cwS 2 hts gX6_peel_X6_of rfl rfl rfl (by decide +kernel) ⟨Nat.le_of_ble_eq_true rfl, Nat.le_of_ble_eq_true rfl⟩) ⟨wU_blind, fun U hU hW => ⟨rfl, trivial⟩⟩ rfl rfl hl.1 rfl (lv_room (Nat.le_of_ble_eq_true rfl)) dX6_peel_20 ⟨Nat.zero_le _, Nat.zero_le _⟩) hS (fun q _ h => h.elim) (fun q h => h.elim) (fun r_6 uu t H_6 locs_6 ht hvm hw hB hz1 hk1 hS => ?_)
          have hP := hP.same hk1
          obtain rfl : r_6 = (nI (14 + 30 * u + (6 + u0))) := hw
          refine w_iald hx hb hK hP 1 (by decide) rfl (vp_in_nI (by omega) (by decide)) dX6_peel_23 ?_
          rw [nI_clamp (by omega), md_gw (k := u0) (by omega)]
          have hwb_7 := hok2.2.2 (u0) (by omega)
          rw [hw2 _ (by omega)]
          refine lv_istore_n (lv' := [(3, .int (nI (L2.getD u0 0))), (2, .int (nI u0)), (0, .ref ((g 0))), (1, .int (nI u))]) hx hb dX6_peel_24 rfl hl (by decide) rfl (fun ls hl => ?_)
          refine lv_aload_n hx hb dX6_peel_25 rfl (lv_at hl 2 rfl) ?_
          refine w_get (C := RX6) (T := TX6) (N := 11) (ci := 6) (v := .ref ((g 1))) hx hb hts hin6 hown hK hP 0 (by decide) rfl rfl 1 (by decide) (hts (.fieldLink RX6 7 "MixedBlocksModel" "s" "[I") (List.mem_of_getElem? (i := 1) rfl)) (fun _ h9 => h9) rfl dX6_peel_26 ?_
          refine lv_iload_n hx hb dX6_peel_29 rfl (lv_at hl 3 rfl) ?_
          refine lv_iconst (v := 5) hx hb dX6_peel_30 (by decide) ?_
          refine va_calli (va_runS (As := [.int (nI u), .int 5]) (rest := [.ref ((g 1))]) ⟨hx, hb, hml, hown, hts⟩ (c_X6_of l u 5) (va_cwS 2 hts gX6_peel_X6_of rfl rfl rfl (by decide +kernel) ⟨Nat.le_of_ble_eq_true rfl, Nat.le_of_ble_eq_true rfl⟩) ⟨wU_blind, fun U hU hW => ⟨rfl, trivial⟩⟩ rfl rfl hl.1 rfl (lv_room (Nat.le_of_ble_eq_true rfl)) dX6_peel_31 ⟨Nat.zero_le _, Nat.zero_le _⟩) hS (fun q _ h => h.elim) (fun q h => h.elim) (fun r_8 uu t H_8 locs_8 ht hvm hw hB hz1 hk1 hS => ?_)
          have hP := hP.same hk1
          obtain rfl : r_8 = (nI (14 + 30 * u + 5)) := hw
          refine lv_dup2_11 hx hb dX6_peel_34 rfl rfl ?_
          refine w_iald hx hb hK hP 1 (by decide) rfl (vp_in_nI (by omega) (by decide)) dX6_peel_35 ?_
          rw [nI_clamp (by omega), md_g5]
          refine lv_iconst (v := 1) hx hb dX6_peel_36 (by decide) ?_
          refine lv_isub hx hb dX6_peel_37 ?_
          rw [show (nI L2.length) - 1 = nI (L2.length - 1) from pk_sub (a := L2.length) (b := 1) (by omega)]
          refine w_iast hx hb hK hP hI hA hS 1 (by decide) rfl (vp_in_nI (by omega) (by decide)) dX6_peel_38 (moF E g th (upd (mdE nb va se (va_up rv u (rvE li K2 go tn2 lo L2.length w2))) (14 + 30 * u + 5) (nI (L2.length - 1))) aa sv sm tx ln ro ai wr dg) (congrArg (fun z : Nat => (Sum.inl (E.2.1, 104, Sum.inl (upd (mdE nb va se (va_up rv u (rvE li K2 go tn2 lo L2.length w2))) z (nI (L2.length - 1)))) : va_E)) (nI_clamp (by omega)).symm) mo_ne1 (fun H_9 locs_9 hP hS => ?_)
          rw [show (upd (mdE nb va se (va_up rv u (rvE li K2 go tn2 lo L2.length w2))) (14 + 30 * u + 5) (nI (L2.length - 1))) = (mdE nb va se (va_up rv u (rvE li K2 go tn2 lo (L2.length - 1) w2))) from md_u5 (n' := (L2.length - 1))] at hP
          refine lv_iload_n hx hb dX6_peel_39 rfl (lv_at hl 1 rfl) ?_
          refine lv_istore (lv' := [(4, .int (nI u0)), (3, .int (nI (L2.getD u0 0))), (2, .int (nI u0)), (0, .ref ((g 0))), (1, .int (nI u))]) hx hb dX6_peel_40 hl (by decide) rfl (fun ls hl => ?_)
          have L42 : ∀ (k2 : Nat) (i : Nat) (w3 : Nat → Int32) (H : Heap) (locs : List Loc) (ls : Array Slot), i + 1 + k2 = L2.length → u0 ≤ i → (∀ j, j < L2.length → w3 j = if j < i then nI ((L2.eraseIdx u0).getD j 0) else nI (L2.getD j 0)) → wP E 6 g (moF E g th (mdE nb va se (va_up rv u (rvE li K2 go tn2 lo (L2.length - 1) w3))) aa sv sm tx ln ro ai wr dg) H → va_S (wF 6 g) s.heap H locs → lv_has ls 5 [(4, .int (nI i)), (3, .int (nI (L2.getD u0 0))), (2, .int (nI u0)), (0, .ref ((g 0))), (1, .int (nI u))] → W p l e (headSpec wsX6_peel ({ frames := 2, cells := 0, slots := 0, locals := 44 })).room s m ([.ref ((g 0)), .int (nI u)] : List Value).toArray below meth c H locs 0 0 (MQ below (va_Qv (fun (_ : Unit) => True) (fun _ t => moR E g th aa sv sm tx ln ro ai wr dg nb va se rv u li ((plM L.length K tn L).1) go ((plM L.length K tn L).2.1) lo ((plM L.length K tn L).2.2) (t.heap)) (wF 6 g)) ([.ref ((g 0)), .int (nI u)] : List Value).toArray s 0 0 (wF 6 g)) (F0 m 42 ls []) := by
            intro k2
            induction k2 with
            | zero =>
              intro i w3 H locs ls hi hpi hl3 hP hS hl
              refine lv_iload hx hb dX6_peel_42 (lv_at hl 0 rfl) ?_
              refine lv_aload_n hx hb dX6_peel_44 rfl (lv_at hl 3 rfl) ?_
              refine w_get (C := RX6) (T := TX6) (N := 11) (ci := 6) (v := .ref ((g 1))) hx hb hts hin6 hown hK hP 0 (by decide) rfl rfl 1 (by decide) (hts (.fieldLink RX6 7 "MixedBlocksModel" "s" "[I") (List.mem_of_getElem? (i := 1) rfl)) (fun _ h9 => h9) rfl dX6_peel_45 ?_
              refine lv_iload_n hx hb dX6_peel_48 rfl (lv_at hl 4 rfl) ?_
              refine lv_iconst (v := 5) hx hb dX6_peel_49 (by decide) ?_
              refine va_calli (va_runS (As := [.int (nI u), .int 5]) (rest := [.ref ((g 1)), .int (nI i)]) ⟨hx, hb, hml, hown, hts⟩ (c_X6_of l u 5) (va_cwS 2 hts gX6_peel_X6_of rfl rfl rfl (by decide +kernel) ⟨Nat.le_of_ble_eq_true rfl, Nat.le_of_ble_eq_true rfl⟩) ⟨wU_blind, fun U hU hW => ⟨rfl, trivial⟩⟩ rfl rfl hl.1 rfl (lv_room (Nat.le_of_ble_eq_true rfl)) dX6_peel_50 ⟨Nat.zero_le _, Nat.zero_le _⟩) hS (fun q _ h => h.elim) (fun q h => h.elim) (fun r_10 uu t H_10 locs_10 ht hvm hw hB hz1 hk1 hS => ?_)
              have hP := hP.same hk1
              obtain rfl : r_10 = (nI (14 + 30 * u + 5)) := hw
              refine w_iald hx hb hK hP 1 (by decide) rfl (vp_in_nI (by omega) (by decide)) dX6_peel_53 ?_
              rw [nI_clamp (by omega), md_g5]
              refine lv_icmp_ge (tgt := 93) hx hb dX6_peel_54 (by decide) (fun c_11 => ?_) (fun c_11 => ?_)
              · have n_11 : (L2.length - 1) ≤ i := (nI_leI (a := (L2.length - 1)) (b := i) (by omega) (by omega)).mp c_11
                have hwE := erM_end hp (by omega) hl3
                have hokE := erW_ok hok2 hp
                rw [← erN_len hp] at hP
                refine lv_aload_n hx hb dX6_peel_93 rfl (lv_at hl 3 rfl) ?_
                refine w_get (C := RX6) (T := TX6) (N := 11) (ci := 6) (v := .ref ((g 1))) hx hb hts hin6 hown hK hP 0 (by decide) rfl rfl 1 (by decide) (hts (.fieldLink RX6 7 "MixedBlocksModel" "s" "[I") (List.mem_of_getElem? (i := 1) rfl)) (fun _ h9 => h9) rfl dX6_peel_94 ?_
                refine lv_iload_n hx hb dX6_peel_97 rfl (lv_at hl 4 rfl) ?_
                refine lv_iconst (v := 3) hx hb dX6_peel_98 (by decide) ?_
                refine va_calli (va_runS (As := [.int (nI u), .int 3]) (rest := [.ref ((g 1))]) ⟨hx, hb, hml, hown, hts⟩ (c_X6_of l u 3) (va_cwS 2 hts gX6_peel_X6_of rfl rfl rfl (by decide +kernel) ⟨Nat.le_of_ble_eq_true rfl, Nat.le_of_ble_eq_true rfl⟩) ⟨wU_blind, fun U hU hW => ⟨rfl, trivial⟩⟩ rfl rfl hl.1 rfl (lv_room (Nat.le_of_ble_eq_true rfl)) dX6_peel_99 ⟨Nat.zero_le _, Nat.zero_le _⟩) hS (fun q _ h => h.elim) (fun q h => h.elim) (fun r_12 uu t H_12 locs_12 ht hvm hw hB hz1 hk1 hS => ?_)
                have hP := hP.same hk1
                obtain rfl : r_12 = (nI (14 + 30 * u + 3)) := hw
                refine lv_dup2_11 hx hb dX6_peel_102 rfl rfl ?_
                refine w_iald hx hb hK hP 1 (by decide) rfl (vp_in_nI (by omega) (by decide)) dX6_peel_103 ?_
                rw [nI_clamp (by omega), md_g3]
                refine lv_iload_n hx hb dX6_peel_104 rfl (lv_at hl 1 rfl) ?_
                refine lv_if_ne (tgt := 112) hx hb dX6_peel_105 (by decide) (fun c_13 => ?_) (fun c_13 => ?_)
                · have n_13 : ¬ ((L2.getD u0 0) = 0) := fun z => c_13 ((nI_eq (a := (L2.getD u0 0)) (b := 0) (by omega) (by omega)).mpr z)
                  refine lv_iconst (v := 0) hx hb dX6_peel_112 (by decide) ?_
                  refine lv_iadd hx hb dX6_peel_113 ?_
                  refine w_iast hx hb hK hP hI hA hS 1 (by decide) rfl (vp_in_nI (by omega) (by decide)) dX6_peel_114 (moF E g th (upd (mdE nb va se (va_up rv u (rvE li K2 go tn2 lo ((L2.eraseIdx u0).length) w3))) (14 + 30 * u + 3) (tn2 + 0)) aa sv sm tx ln ro ai wr dg) (congrArg (fun z : Nat => (Sum.inl (E.2.1, 104, Sum.inl (upd (mdE nb va se (va_up rv u (rvE li K2 go tn2 lo ((L2.eraseIdx u0).length) w3))) z (tn2 + 0))) : va_E)) (nI_clamp (by omega)).symm) mo_ne1 (fun H_14 locs_14 hP hS => ?_)
                  rw [show (upd (mdE nb va se (va_up rv u (rvE li K2 go tn2 lo ((L2.eraseIdx u0).length) w3))) (14 + 30 * u + 3) (tn2 + 0)) = (mdE nb va se (va_up rv u (rvE li K2 go (tn2 + 0) lo ((L2.eraseIdx u0).length) w3))) from md_u3] at hP
                  have htn : (tn2 + 0) = (if L2.getD u0 0 = 0 then tn2 + 1 else tn2) := by rw [if_neg n_13, Int32.add_zero]
                  rw [htn] at hP
                  have hpl := plM_some (n := k) (K := K2) (tn := tn2) hfs
                  refine lv_aload_n hx hb dX6_peel_115 rfl (lv_at hl 3 rfl) ?_
                  refine lv_iload_n hx hb dX6_peel_116 rfl (lv_at hl 4 rfl) ?_
                  refine lv_iload_n hx hb dX6_peel_117 rfl (lv_at hl 1 rfl) ?_
                  refine va_callv (va_runV (As := [.int (nI u), .int (nI (L2.getD u0 0))]) (rest := []) ⟨hx, hb, hml, hown, hts⟩ (c_X6_knows l E g th aa sv sm tx ln ro ai wr dg nb va se rv u li K2 go (if L2.getD u0 0 = 0 then tn2 + 1 else tn2) lo (L2.eraseIdx u0) hu3 (L2.getD u0 0) (by omega)) (cwV 2 hts gX6_peel_X6_knows rfl rfl rfl (by decide +kernel) ⟨Nat.le_of_ble_eq_true rfl, Nat.le_of_ble_eq_true rfl⟩) ⟨wS.blind, (w_recv hK hP 0 (by decide) rfl (ci := 6) rfl), fun U hU hW => wS.go ⟨_, hP, hwE, hokE⟩ hK hI hU hW⟩ rfl rfl hl.1 rfl (lv_room (Nat.le_of_ble_eq_true rfl)) dX6_peel_118 ⟨Nat.zero_le _, Nat.zero_le _⟩) hS (fun q _ h => h) (fun q h => h) (fun uu t H_15 locs_15 ht hvm hw hB hz1 hk1 hS => ?_)
                  rw [ht] at hB
                  obtain ⟨w_15, hP, hw_15, hok_15⟩ := hB
                  have hP : wP E 6 g (moF E g th (mdE nb va se (va_up rv u (rvE li (K2 ||| (L2.getD u0 0)) go (if L2.getD u0 0 = 0 then tn2 + 1 else tn2) lo ((knW (L2.getD u0 0) (L2.eraseIdx u0)).length) w_15))) aa sv sm tx ln ro ai wr dg) H_15 := hP
                  have hkk_15 := hok_15.2.1
                  refine lv_aload_n hx hb dX6_peel_121 rfl (lv_at hl 3 rfl) ?_
                  refine lv_iload_n hx hb dX6_peel_122 rfl (lv_at hl 4 rfl) ?_
                  refine va_calli (va_runV (As := [.int (nI u)]) (rest := []) ⟨hx, hb, hml, hown, hts⟩ (c_X6_first l E g th aa sv sm tx ln ro ai wr dg nb va se rv u li (K2 ||| (L2.getD u0 0)) go (if L2.getD u0 0 = 0 then tn2 + 1 else tn2) lo (knW (L2.getD u0 0) (L2.eraseIdx u0)) hu3 ) (cwV 1 hts gX6_peel_X6_first rfl rfl rfl (by decide +kernel) ⟨Nat.le_of_ble_eq_true rfl, Nat.le_of_ble_eq_true rfl⟩) ⟨wS.blind, (w_recv hK hP 0 (by decide) rfl (ci := 6) rfl), fun U hU hW => wS.go ⟨_, hP, hw_15, hok_15⟩ hK hI hU hW⟩ rfl rfl hl.1 rfl (lv_room (Nat.le_of_ble_eq_true rfl)) dX6_peel_123 ⟨Nat.zero_le _, Nat.zero_le _⟩) hS (fun q _ h => h.elim) (fun q h => h.elim) (fun r_16 uu t H_16 locs_16 ht hvm hw hB hz1 hk1 hS => ?_)
                  have hP := hP.same hk1
                  obtain rfl : r_16 = (fsMI (knW (L2.getD u0 0) (L2.eraseIdx u0))) := hw
                  refine lv_istore_n (lv' := [(2, .int ((fsMI (knW (L2.getD u0 0) (L2.eraseIdx u0))))), (4, .int (nI i)), (3, .int (nI (L2.getD u0 0))), (0, .ref ((g 0))), (1, .int (nI u))]) hx hb dX6_peel_126 rfl hl (by decide) rfl (fun ls hl => ?_)
                  refine lv_goto (tgt := 6) hx hb dX6_peel_127 (by decide) ?_
                  exact ihk (K2 ||| (L2.getD u0 0)) (if L2.getD u0 0 = 0 then tn2 + 1 else tn2) (knW (L2.getD u0 0) (L2.eraseIdx u0)) w_15 _ _ ls (by rw [knW_len, erN_len hp]; omega) (hpl.symm.trans hres) hw_15 hok_15 hP hS (lv_sub hl [0, 3, 4] rfl)
                · have n_13 : (L2.getD u0 0) = 0 := (nI_eq (a := (L2.getD u0 0)) (b := 0) (by omega) (by omega)).mp c_13
                  refine lv_iconst (v := 1) hx hb dX6_peel_108 (by decide) ?_
                  refine lv_goto (tgt := 113) hx hb dX6_peel_109 (by decide) ?_
                  refine lv_iadd hx hb dX6_peel_113 ?_
                  refine w_iast hx hb hK hP hI hA hS 1 (by decide) rfl (vp_in_nI (by omega) (by decide)) dX6_peel_114 (moF E g th (upd (mdE nb va se (va_up rv u (rvE li K2 go tn2 lo ((L2.eraseIdx u0).length) w3))) (14 + 30 * u + 3) (tn2 + 1)) aa sv sm tx ln ro ai wr dg) (congrArg (fun z : Nat => (Sum.inl (E.2.1, 104, Sum.inl (upd (mdE nb va se (va_up rv u (rvE li K2 go tn2 lo ((L2.eraseIdx u0).length) w3))) z (tn2 + 1))) : va_E)) (nI_clamp (by omega)).symm) mo_ne1 (fun H_17 locs_17 hP hS => ?_)
                  rw [show (upd (mdE nb va se (va_up rv u (rvE li K2 go tn2 lo ((L2.eraseIdx u0).length) w3))) (14 + 30 * u + 3) (tn2 + 1)) = (mdE nb va se (va_up rv u (rvE li K2 go (tn2 + 1) lo ((L2.eraseIdx u0).length) w3))) from md_u3] at hP
                  have htn : (tn2 + 1) = (if L2.getD u0 0 = 0 then tn2 + 1 else tn2) := by rw [if_pos n_13]
                  rw [htn] at hP
                  have hpl := plM_some (n := k) (K := K2) (tn := tn2) hfs
                  refine lv_aload_n hx hb dX6_peel_115 rfl (lv_at hl 3 rfl) ?_
                  refine lv_iload_n hx hb dX6_peel_116 rfl (lv_at hl 4 rfl) ?_
                  refine lv_iload_n hx hb dX6_peel_117 rfl (lv_at hl 1 rfl) ?_
                  refine va_callv (va_runV (As := [.int (nI u), .int (nI (L2.getD u0 0))]) (rest := []) ⟨hx, hb, hml, hown, hts⟩ (c_X6_knows l E g th aa sv sm tx ln ro ai wr dg nb va se rv u li K2 go (if L2.getD u0 0 = 0 then tn2 + 1 else tn2) lo (L2.eraseIdx u0) hu3 (L2.getD u0 0) (by omega)) (cwV 2 hts gX6_peel_X6_knows rfl rfl rfl (by decide +kernel) ⟨Nat.le_of_ble_eq_true rfl, Nat.le_of_ble_eq_true rfl⟩) ⟨wS.blind, (w_recv hK hP 0 (by decide) rfl (ci := 6) rfl), fun U hU hW => wS.go ⟨_, hP, hwE, hokE⟩ hK hI hU hW⟩ rfl rfl hl.1 rfl (lv_room (Nat.le_of_ble_eq_true rfl)) dX6_peel_118 ⟨Nat.zero_le _, Nat.zero_le _⟩) hS (fun q _ h => h) (fun q h => h) (fun uu t H_18 locs_18 ht hvm hw hB hz1 hk1 hS => ?_)
                  rw [ht] at hB
                  obtain ⟨w_18, hP, hw_18, hok_18⟩ := hB
                  have hP : wP E 6 g (moF E g th (mdE nb va se (va_up rv u (rvE li (K2 ||| (L2.getD u0 0)) go (if L2.getD u0 0 = 0 then tn2 + 1 else tn2) lo ((knW (L2.getD u0 0) (L2.eraseIdx u0)).length) w_18))) aa sv sm tx ln ro ai wr dg) H_18 := hP
                  have hkk_18 := hok_18.2.1
                  refine lv_aload_n hx hb dX6_peel_121 rfl (lv_at hl 3 rfl) ?_
                  refine lv_iload_n hx hb dX6_peel_122 rfl (lv_at hl 4 rfl) ?_
                  refine va_calli (va_runV (As := [.int (nI u)]) (rest := []) ⟨hx, hb, hml, hown, hts⟩ (c_X6_first l E g th aa sv sm tx ln ro ai wr dg nb va se rv u li (K2 ||| (L2.getD u0 0)) go (if L2.getD u0 0 = 0 then tn2 + 1 else tn2) lo (knW (L2.getD u0 0) (L2.eraseIdx u0)) hu3 ) (cwV 1 hts gX6_peel_X6_first rfl rfl rfl (by decide +kernel) ⟨Nat.le_of_ble_eq_true rfl, Nat.le_of_ble_eq_true rfl⟩) ⟨wS.blind, (w_recv hK hP 0 (by decide) rfl (ci := 6) rfl), fun U hU hW => wS.go ⟨_, hP, hw_18, hok_18⟩ hK hI hU hW⟩ rfl rfl hl.1 rfl (lv_room (Nat.le_of_ble_eq_true rfl)) dX6_peel_123 ⟨Nat.zero_le _, Nat.zero_le _⟩) hS (fun q _ h => h.elim) (fun q h => h.elim) (fun r_19 uu t H_19 locs_19 ht hvm hw hB hz1 hk1 hS => ?_)
                  have hP := hP.same hk1
                  obtain rfl : r_19 = (fsMI (knW (L2.getD u0 0) (L2.eraseIdx u0))) := hw
                  refine lv_istore_n (lv' := [(2, .int ((fsMI (knW (L2.getD u0 0) (L2.eraseIdx u0))))), (4, .int (nI i)), (3, .int (nI (L2.getD u0 0))), (0, .ref ((g 0))), (1, .int (nI u))]) hx hb dX6_peel_126 rfl hl (by decide) rfl (fun ls hl => ?_)
                  refine lv_goto (tgt := 6) hx hb dX6_peel_127 (by decide) ?_
                  exact ihk (K2 ||| (L2.getD u0 0)) (if L2.getD u0 0 = 0 then tn2 + 1 else tn2) (knW (L2.getD u0 0) (L2.eraseIdx u0)) w_18 _ _ ls (by rw [knW_len, erN_len hp]; omega) (hpl.symm.trans hres) hw_18 hok_18 hP hS (lv_sub hl [0, 3, 4] rfl)
              · have n_11 : ¬ ((L2.length - 1) ≤ i) := fun z => c_11 ((nI_leI (a := (L2.length - 1)) (b := i) (by omega) (by omega)).mpr z)
                exfalso
                omega
            | succ k2 ihk2 =>
              intro i w3 H locs ls hi hpi hl3 hP hS hl
              refine lv_iload hx hb dX6_peel_42 (lv_at hl 0 rfl) ?_
              refine lv_aload_n hx hb dX6_peel_44 rfl (lv_at hl 3 rfl) ?_
              refine w_get (C := RX6) (T := TX6) (N := 11) (ci := 6) (v := .ref ((g 1))) hx hb hts hin6 hown hK hP 0 (by decide) rfl rfl 1 (by decide) (hts (.fieldLink RX6 7 "MixedBlocksModel" "s" "[I") (List.mem_of_getElem? (i := 1) rfl)) (fun _ h9 => h9) rfl dX6_peel_45 ?_
              refine lv_iload_n hx hb dX6_peel_48 rfl (lv_at hl 4 rfl) ?_
              refine lv_iconst (v := 5) hx hb dX6_peel_49 (by decide) ?_
              refine va_calli (va_runS (As := [.int (nI u), .int 5]) (rest := [.ref ((g 1)), .int (nI i)]) ⟨hx, hb, hml, hown, hts⟩ (c_X6_of l u 5) (va_cwS 2 hts gX6_peel_X6_of rfl rfl rfl (by decide +kernel) ⟨Nat.le_of_ble_eq_true rfl, Nat.le_of_ble_eq_true rfl⟩) ⟨wU_blind, fun U hU hW => ⟨rfl, trivial⟩⟩ rfl rfl hl.1 rfl (lv_room (Nat.le_of_ble_eq_true rfl)) dX6_peel_50 ⟨Nat.zero_le _, Nat.zero_le _⟩) hS (fun q _ h => h.elim) (fun q h => h.elim) (fun r_20 uu t H_20 locs_20 ht hvm hw hB hz1 hk1 hS => ?_)
              have hP := hP.same hk1
              obtain rfl : r_20 = (nI (14 + 30 * u + 5)) := hw
              refine w_iald hx hb hK hP 1 (by decide) rfl (vp_in_nI (by omega) (by decide)) dX6_peel_53 ?_
              rw [nI_clamp (by omega), md_g5]
              refine lv_icmp_ge (tgt := 93) hx hb dX6_peel_54 (by decide) (fun c_21 => ?_) (fun c_21 => ?_)
              · have n_21 : (L2.length - 1) ≤ i := (nI_leI (a := (L2.length - 1)) (b := i) (by omega) (by omega)).mp c_21
                exfalso
                omega
              · have n_21 : ¬ ((L2.length - 1) ≤ i) := fun z => c_21 ((nI_leI (a := (L2.length - 1)) (b := i) (by omega) (by omega)).mpr z)
                refine lv_aload_n hx hb dX6_peel_57 rfl (lv_at hl 3 rfl) ?_
                refine w_get (C := RX6) (T := TX6) (N := 11) (ci := 6) (v := .ref ((g 1))) hx hb hts hin6 hown hK hP 0 (by decide) rfl rfl 1 (by decide) (hts (.fieldLink RX6 7 "MixedBlocksModel" "s" "[I") (List.mem_of_getElem? (i := 1) rfl)) (fun _ h9 => h9) rfl dX6_peel_58 ?_
                refine lv_iload_n hx hb dX6_peel_61 rfl (lv_at hl 4 rfl) ?_
                refine lv_bipush (v := 6) hx hb dX6_peel_62 (by decide) ?_
                refine lv_iload hx hb dX6_peel_64 (lv_at hl 0 rfl) ?_
                refine lv_iadd hx hb dX6_peel_66 ?_
                rw [show 6 + (nI i) = nI (6 + i) from nI_add 6 i]
                refine va_calli (va_runS (As := [.int (nI u), .int (nI (6 + i))]) (rest := [.ref ((g 1))]) ⟨hx, hb, hml, hown, hts⟩ (c_X6_of l u (6 + i)) (va_cwS 2 hts gX6_peel_X6_of rfl rfl rfl (by decide +kernel) ⟨Nat.le_of_ble_eq_true rfl, Nat.le_of_ble_eq_true rfl⟩) ⟨wU_blind, fun U hU hW => ⟨rfl, trivial⟩⟩ rfl rfl hl.1 rfl (lv_room (Nat.le_of_ble_eq_true rfl)) dX6_peel_67 ⟨Nat.zero_le _, Nat.zero_le _⟩) hS (fun q _ h => h.elim) (fun q h => h.elim) (fun r_22 uu t H_22 locs_22 ht hvm hw hB hz1 hk1 hS => ?_)
                have hP := hP.same hk1
                obtain rfl : r_22 = (nI (14 + 30 * u + (6 + i))) := hw
                refine lv_aload_n hx hb dX6_peel_70 rfl (lv_at hl 3 rfl) ?_
                refine w_get (C := RX6) (T := TX6) (N := 11) (ci := 6) (v := .ref ((g 1))) hx hb hts hin6 hown hK hP 0 (by decide) rfl rfl 1 (by decide) (hts (.fieldLink RX6 7 "MixedBlocksModel" "s" "[I") (List.mem_of_getElem? (i := 1) rfl)) (fun _ h9 => h9) rfl dX6_peel_71 ?_
                refine lv_iload_n hx hb dX6_peel_74 rfl (lv_at hl 4 rfl) ?_
                refine lv_bipush (v := 6) hx hb dX6_peel_75 (by decide) ?_
                refine lv_iload hx hb dX6_peel_77 (lv_at hl 0 rfl) ?_
                refine lv_iadd hx hb dX6_peel_79 ?_
                rw [show 6 + (nI i) = nI (6 + i) from nI_add 6 i]
                refine lv_iconst (v := 1) hx hb dX6_peel_80 (by decide) ?_
                refine lv_iadd hx hb dX6_peel_81 ?_
                rw [show (nI (6 + i)) + 1 = nI ((6 + i) + 1) from nI_add (6 + i) 1]
                refine va_calli (va_runS (As := [.int (nI u), .int (nI ((6 + i) + 1))]) (rest := [.ref ((g 1)), .int ((nI (14 + 30 * u + (6 + i)))), .ref ((g 1))]) ⟨hx, hb, hml, hown, hts⟩ (c_X6_of l u ((6 + i) + 1)) (va_cwS 2 hts gX6_peel_X6_of rfl rfl rfl (by decide +kernel) ⟨Nat.le_of_ble_eq_true rfl, Nat.le_of_ble_eq_true rfl⟩) ⟨wU_blind, fun U hU hW => ⟨rfl, trivial⟩⟩ rfl rfl hl.1 rfl (lv_room (Nat.le_of_ble_eq_true rfl)) dX6_peel_82 ⟨Nat.zero_le _, Nat.zero_le _⟩) hS (fun q _ h => h.elim) (fun q h => h.elim) (fun r_23 uu t H_23 locs_23 ht hvm hw hB hz1 hk1 hS => ?_)
                have hP := hP.same hk1
                obtain rfl : r_23 = (nI (14 + 30 * u + ((6 + i) + 1))) := hw
                refine w_iald hx hb hK hP 1 (by decide) rfl (vp_in_nI (by omega) (by decide)) dX6_peel_85 ?_
                rw [nI_clamp (by omega), show 14 + 30 * u + ((6 + i) + 1) = 14 + 30 * u + (6 + (i + 1)) from rfl, md_gw (k := i + 1) (by omega)]
                have hwb_24 := hok2.2.2 (i + 1) (by omega)
                rw [hl3 _ (by omega), if_neg (by omega)]
                refine w_iast hx hb hK hP hI hA hS 1 (by decide) rfl (vp_in_nI (by omega) (by decide)) dX6_peel_86 (moF E g th (upd (mdE nb va se (va_up rv u (rvE li K2 go tn2 lo (L2.length - 1) w3))) (14 + 30 * u + (6 + i)) (nI (L2.getD (i + 1) 0))) aa sv sm tx ln ro ai wr dg) (congrArg (fun z : Nat => (Sum.inl (E.2.1, 104, Sum.inl (upd (mdE nb va se (va_up rv u (rvE li K2 go tn2 lo (L2.length - 1) w3))) z (nI (L2.getD (i + 1) 0)))) : va_E)) (nI_clamp (by omega)).symm) mo_ne1 (fun H_25 locs_25 hP hS => ?_)
                rw [show (upd (mdE nb va se (va_up rv u (rvE li K2 go tn2 lo (L2.length - 1) w3))) (14 + 30 * u + (6 + i)) (nI (L2.getD (i + 1) 0))) = (mdE nb va se (va_up rv u (rvE li K2 go tn2 lo (L2.length - 1) (upd w3 i (nI (L2.getD (i + 1) 0)))))) from md_uw (k := i) (by omega)] at hP
                refine lv_iinc (v := (nI (i + 1))) (lv' := [(4, .int (nI (i + 1))), (3, .int (nI (L2.getD u0 0))), (2, .int (nI u0)), (0, .ref ((g 0))), (1, .int (nI u))]) hx hb dX6_peel_87 hl (k := 0) rfl (nI_1 _) (by decide) rfl (fun ls hl => ?_)
                refine lv_goto (tgt := 42) hx hb dX6_peel_90 (by decide) ?_
                exact ihk2 (i + 1) (upd w3 i (nI (L2.getD (i + 1) 0))) _ _ ls (by omega) (by omega) (erM_step (by omega) hl3) hP hS (lv_sub hl [0, 1, 2, 3, 4] rfl)
          exact L42 (L2.length - 1 - u0) u0 w2 _ _ ls (by omega) (Nat.le_refl u0) (erM_0 hw2) hP hS (lv_sub hl [0, 1, 2, 3, 4] rfl)
  exact L6 L.length K tn L w _ _ ls rfl rfl hw hok hP hS (lv_sub hl [0, 1, 2] rfl)
