set_option maxHeartbeats 4000000 in
set_option maxRecDepth 100000 in
theorem c_X6_gets (l : Launch) (E : wE) (g : Nat → Nat) (th : Int32) (aa sv : Nat → Int32) (sm : Nat) (tx : Nat → Int32) (ln : Nat) (ro : Nat → Int32) (ai : Nat) (wr : Bool) (dg : Int64) (nb : Nat) (va : Nat → Int32) (se : Int32) (rv : Nat → Nat → Int32) (u : Nat) (li : Bool) (K : Nat) (go tn lo : Int32) (L : List Nat) (hu3 : u < 3) (mk : Nat) (hm : mk < 4096) : Met l yX6_gets wsX6_gets ({ frames := 3, cells := 0, slots := 0, locals := 68 }) (va_Pc [.ref ((g 0)), .int (nI u), .int (nI mk)] (wS E 6 g (fun H => moR E g th aa sv sm tx ln ro ai wr dg nb va se rv u li K go tn lo L (H)))) (va_Qi (fun (r : Int32) (_ : Unit) => r = nI (pc (getM mk (K, go, tn, lo, L)).1) - nI (pc K)) (fun _ t => moR E g th aa sv sm tx ln ro ai wr dg nb va se rv u li ((getM mk (K, go, tn, lo, L)).1) ((getM mk (K, go, tn, lo, L)).2.1) ((getM mk (K, go, tn, lo, L)).2.2.1) ((getM mk (K, go, tn, lo, L)).2.2.2.1) ((getM mk (K, go, tn, lo, L)).2.2.2.2) (t.heap)) (wF 6 g)) 0 0 (wF 6 g) := by
  refine Met.ofW (cc := cX6_gets) (maxL := 6) (ret := (some .int)) (by decide) rfl ?_
  intro p e s m args below meth c s₁ B hml hv
  obtain ⟨rfl, ⟨w, hP, hw, hok⟩, hK, hI⟩ := hv
  have hx := B.exec
  have hb := B.bytes
  have hr := B.returns
  have hts := atoms_spec (ws := wsX6_gets) B.pre
  have hown : s.vm.findClass RX6 = some m.cls := findClass_of_methodNamed B.named
  have hlocks := B.notSynchronized
  have hS : va_S (wF 6 g) s.heap s.heap [] := va_S.rf
  have hin6 : ∀ w ∈ wsX60, w ∈ wsX6_gets := by decide +kernel
  have hA : ∀ k, k < 6 → (wF 6 g) (g k) := wF_in
  have hl := lv_entry ([.ref ((g 0)), .int (nI u), .int (nI mk)]) (n := 6) (Nat.le_of_ble_eq_true rfl)
  rw [lg_entry_eq]
  generalize (lg_sl ([.ref ((g 0)), .int (nI u), .int (nI mk)]) ++ List.replicate (6 - (lg_sl ([.ref ((g 0)), .int (nI u), .int (nI mk)])).length) Slot.unset).toArray = ls at hl ⊢
  have hl : lv_has ls 6 [(0, .ref ((g 0))), (1, .int (nI u)), (2, .int (nI mk))] := hl
  have hP : wP E 6 g (moF E g th (mdE nb va se (va_up rv u (rvE li K go tn lo L.length w))) aa sv sm tx ln ro ai wr dg) s.heap := hP
  obtain ⟨hWl, hK12, hW12⟩ := id hok
  have hlt := andn_lt (a := mk) (k := K) hm
  refine lv_aload_n hx hb dX6_gets_0 rfl (lv_at hl 0 rfl) ?_
  refine w_get (C := RX6) (T := TX6) (N := 11) (ci := 6) (v := .ref ((g 1))) hx hb hts hin6 hown hK hP 0 (by decide) rfl rfl 1 (by decide) (hts (.fieldLink RX6 7 "MixedBlocksModel" "s" "[I") (List.mem_of_getElem? (i := 1) rfl)) (fun _ h9 => h9) rfl dX6_gets_1 ?_
  refine lv_iload_n hx hb dX6_gets_4 rfl (lv_at hl 1 rfl) ?_
  refine lv_iconst (v := 1) hx hb dX6_gets_5 (by decide) ?_
  refine va_calli (va_runS (As := [.int (nI u), .int 1]) (rest := [.ref ((g 1))]) ⟨hx, hb, hml, hown, hts⟩ (c_X6_of l u 1) (va_cwS 2 hts gX6_gets_X6_of rfl rfl rfl (by decide +kernel) ⟨Nat.le_of_ble_eq_true rfl, Nat.le_of_ble_eq_true rfl⟩) ⟨wU_blind, fun U hU hW => ⟨rfl, trivial⟩⟩ rfl rfl hl.1 rfl (lv_room (Nat.le_of_ble_eq_true rfl)) dX6_gets_6 ⟨Nat.zero_le _, Nat.zero_le _⟩) hS (fun q _ h => h.elim) (fun q h => h.elim) (fun r_1 uu t H_1 locs_1 ht hvm hw hB hz1 hk1 hS => ?_)
  have hP := hP.same hk1
  obtain rfl : r_1 = (nI (14 + 30 * u + 1)) := hw
  refine w_iald hx hb hK hP 1 (by decide) rfl (vp_in_nI (by omega) (by decide)) dX6_gets_9 ?_
  rw [nI_clamp (by omega), md_g1]
  refine va_calli (va_runS (As := [.int (nI K)]) (rest := []) ⟨hx, hb, hml, hown, hts⟩ (c_X6_bits l K (by omega)) (va_cwS 1 hts gX6_gets_X6_bits rfl rfl rfl (by decide +kernel) ⟨Nat.le_of_ble_eq_true rfl, Nat.le_of_ble_eq_true rfl⟩) ⟨wU_blind, fun U hU hW => ⟨rfl, trivial⟩⟩ rfl rfl hl.1 rfl (lv_room (Nat.le_of_ble_eq_true rfl)) dX6_gets_10 ⟨Nat.zero_le _, Nat.zero_le _⟩) hS (fun q _ h => h.elim) (fun q h => h.elim) (fun r_3 uu t H_3 locs_3 ht hvm hw hB hz1 hk1 hS => ?_)
  have hP := hP.same hk1
  have hpl_2 := pc_le K
  obtain rfl : r_3 = (nI (pc K)) := hw
  refine lv_istore_n (lv' := [(3, .int ((nI (pc K)))), (0, .ref ((g 0))), (1, .int (nI u)), (2, .int (nI mk))]) hx hb dX6_gets_13 rfl hl (by decide) rfl (fun ls hl => ?_)
  refine lv_iload_n hx hb dX6_gets_14 rfl (lv_at hl 3 rfl) ?_
  refine lv_aload_n hx hb dX6_gets_15 rfl (lv_at hl 1 rfl) ?_
  refine w_get (C := RX6) (T := TX6) (N := 11) (ci := 6) (v := .ref ((g 1))) hx hb hts hin6 hown hK hP 0 (by decide) rfl rfl 1 (by decide) (hts (.fieldLink RX6 7 "MixedBlocksModel" "s" "[I") (List.mem_of_getElem? (i := 1) rfl)) (fun _ h9 => h9) rfl dX6_gets_16 ?_
  refine lv_iload_n hx hb dX6_gets_19 rfl (lv_at hl 2 rfl) ?_
  refine lv_iconst (v := 1) hx hb dX6_gets_20 (by decide) ?_
  refine va_calli (va_runS (As := [.int (nI u), .int 1]) (rest := [.ref ((g 1)), .int (nI mk)]) ⟨hx, hb, hml, hown, hts⟩ (c_X6_of l u 1) (va_cwS 2 hts gX6_gets_X6_of rfl rfl rfl (by decide +kernel) ⟨Nat.le_of_ble_eq_true rfl, Nat.le_of_ble_eq_true rfl⟩) ⟨wU_blind, fun U hU hW => ⟨rfl, trivial⟩⟩ rfl rfl hl.1 rfl (lv_room (Nat.le_of_ble_eq_true rfl)) dX6_gets_21 ⟨Nat.zero_le _, Nat.zero_le _⟩) hS (fun q _ h => h.elim) (fun q h => h.elim) (fun r_4 uu t H_4 locs_4 ht hvm hw hB hz1 hk1 hS => ?_)
  have hP := hP.same hk1
  obtain rfl : r_4 = (nI (14 + 30 * u + 1)) := hw
  refine w_iald hx hb hK hP 1 (by decide) rfl (vp_in_nI (by omega) (by decide)) dX6_gets_24 ?_
  rw [nI_clamp (by omega), md_g1]
  refine lv_iconst (v := (-1)) hx hb dX6_gets_25 (by decide) ?_
  refine lv_ixor hx hb dX6_gets_26 ?_
  refine lv_iand hx hb dX6_gets_27 ?_
  rw [show (nI mk) &&& ((nI K) ^^^ (-1)) = nI (andn mk K) from nI_andn mk K]
  refine lv_istore (lv' := [(4, .int (nI (andn mk K))), (3, .int ((nI (pc K)))), (0, .ref ((g 0))), (1, .int (nI u)), (2, .int (nI mk))]) hx hb dX6_gets_28 hl (by decide) rfl (fun ls hl => ?_)
  refine lv_iload hx hb dX6_gets_30 (lv_at hl 0 rfl) ?_
  refine va_calli (va_runS (As := [.int (nI (andn mk K))]) (rest := []) ⟨hx, hb, hml, hown, hts⟩ (c_X6_bits l (andn mk K) (by omega)) (va_cwS 1 hts gX6_gets_X6_bits rfl rfl rfl (by decide +kernel) ⟨Nat.le_of_ble_eq_true rfl, Nat.le_of_ble_eq_true rfl⟩) ⟨wU_blind, fun U hU hW => ⟨rfl, trivial⟩⟩ rfl rfl hl.1 rfl (lv_room (Nat.le_of_ble_eq_true rfl)) dX6_gets_32 ⟨Nat.zero_le _, Nat.zero_le _⟩) hS (fun q _ h => h.elim) (fun q h => h.elim) (fun r_6 uu t H_6 locs_6 ht hvm hw hB hz1 hk1 hS => ?_)
  have hP := hP.same hk1
  have hpl_5 := pc_le (andn mk K)
  obtain rfl : r_6 = (nI (pc (andn mk K))) := hw
  refine lv_istore (lv' := [(5, .int ((nI (pc (andn mk K))))), (4, .int (nI (andn mk K))), (3, .int ((nI (pc K)))), (0, .ref ((g 0))), (1, .int (nI u)), (2, .int (nI mk))]) hx hb dX6_gets_35 hl (by decide) rfl (fun ls hl => ?_)
  refine lv_aload_n hx hb dX6_gets_37 rfl (lv_at hl 3 rfl) ?_
  refine w_get (C := RX6) (T := TX6) (N := 11) (ci := 6) (v := .ref ((g 1))) hx hb hts hin6 hown hK hP 0 (by decide) rfl rfl 1 (by decide) (hts (.fieldLink RX6 7 "MixedBlocksModel" "s" "[I") (List.mem_of_getElem? (i := 1) rfl)) (fun _ h9 => h9) rfl dX6_gets_38 ?_
  refine lv_iload_n hx hb dX6_gets_41 rfl (lv_at hl 4 rfl) ?_
  refine lv_iconst (v := 2) hx hb dX6_gets_42 (by decide) ?_
  refine va_calli (va_runS (As := [.int (nI u), .int 2]) (rest := [.ref ((g 1))]) ⟨hx, hb, hml, hown, hts⟩ (c_X6_of l u 2) (va_cwS 2 hts gX6_gets_X6_of rfl rfl rfl (by decide +kernel) ⟨Nat.le_of_ble_eq_true rfl, Nat.le_of_ble_eq_true rfl⟩) ⟨wU_blind, fun U hU hW => ⟨rfl, trivial⟩⟩ rfl rfl hl.1 rfl (lv_room (Nat.le_of_ble_eq_true rfl)) dX6_gets_43 ⟨Nat.zero_le _, Nat.zero_le _⟩) hS (fun q _ h => h.elim) (fun q h => h.elim) (fun r_7 uu t H_7 locs_7 ht hvm hw hB hz1 hk1 hS => ?_)
  have hP := hP.same hk1
  obtain rfl : r_7 = (nI (14 + 30 * u + 2)) := hw
  refine lv_dup2_11 hx hb dX6_gets_46 rfl rfl ?_
  refine w_iald hx hb hK hP 1 (by decide) rfl (vp_in_nI (by omega) (by decide)) dX6_gets_47 ?_
  rw [nI_clamp (by omega), md_g2]
  refine lv_iconst (v := 1) hx hb dX6_gets_48 (by decide) ?_
  refine lv_iadd hx hb dX6_gets_49 ?_
  refine w_iast hx hb hK hP hI hA hS 1 (by decide) rfl (vp_in_nI (by omega) (by decide)) dX6_gets_50 (moF E g th (upd (mdE nb va se (va_up rv u (rvE li K go tn lo L.length w))) (14 + 30 * u + 2) (go + 1)) aa sv sm tx ln ro ai wr dg) (congrArg (fun z : Nat => (Sum.inl (E.2.1, 104, Sum.inl (upd (mdE nb va se (va_up rv u (rvE li K go tn lo L.length w))) z (go + 1))) : va_E)) (nI_clamp (by omega)).symm) mo_ne1 (fun H_8 locs_8 hP hS => ?_)
  rw [show (upd (mdE nb va se (va_up rv u (rvE li K go tn lo L.length w))) (14 + 30 * u + 2) (go + 1)) = (mdE nb va se (va_up rv u (rvE li K (go + 1) tn lo L.length w))) from md_u2] at hP
  refine lv_aload_n hx hb dX6_gets_51 rfl (lv_at hl 3 rfl) ?_
  refine w_get (C := RX6) (T := TX6) (N := 11) (ci := 6) (v := .ref ((g 1))) hx hb hts hin6 hown hK hP 0 (by decide) rfl rfl 1 (by decide) (hts (.fieldLink RX6 7 "MixedBlocksModel" "s" "[I") (List.mem_of_getElem? (i := 1) rfl)) (fun _ h9 => h9) rfl dX6_gets_52 ?_
  refine lv_iload_n hx hb dX6_gets_55 rfl (lv_at hl 4 rfl) ?_
  refine lv_iconst (v := 3) hx hb dX6_gets_56 (by decide) ?_
  refine va_calli (va_runS (As := [.int (nI u), .int 3]) (rest := [.ref ((g 1))]) ⟨hx, hb, hml, hown, hts⟩ (c_X6_of l u 3) (va_cwS 2 hts gX6_gets_X6_of rfl rfl rfl (by decide +kernel) ⟨Nat.le_of_ble_eq_true rfl, Nat.le_of_ble_eq_true rfl⟩) ⟨wU_blind, fun U hU hW => ⟨rfl, trivial⟩⟩ rfl rfl hl.1 rfl (lv_room (Nat.le_of_ble_eq_true rfl)) dX6_gets_57 ⟨Nat.zero_le _, Nat.zero_le _⟩) hS (fun q _ h => h.elim) (fun q h => h.elim) (fun r_9 uu t H_9 locs_9 ht hvm hw hB hz1 hk1 hS => ?_)
  have hP := hP.same hk1
  obtain rfl : r_9 = (nI (14 + 30 * u + 3)) := hw
  refine lv_dup2_11 hx hb dX6_gets_60 rfl rfl ?_
  refine w_iald hx hb hK hP 1 (by decide) rfl (vp_in_nI (by omega) (by decide)) dX6_gets_61 ?_
  rw [nI_clamp (by omega), md_g3]
  refine lv_iload hx hb dX6_gets_62 (lv_at hl 0 rfl) ?_
  refine lv_if_ne (tgt := 71) hx hb dX6_gets_64 (by decide) (fun c_10 => ?_) (fun c_10 => ?_)
  · have n_10 : ¬ ((pc (andn mk K)) = 0) := fun z => c_10 ((nI_eq (a := (pc (andn mk K))) (b := 0) (by omega) (by omega)).mpr z)
    refine lv_iconst (v := 0) hx hb dX6_gets_71 (by decide) ?_
    refine lv_iadd hx hb dX6_gets_72 ?_
    rw [show tn + 0 = tn from Int32.add_zero tn]
    refine w_iast hx hb hK hP hI hA hS 1 (by decide) rfl (vp_in_nI (by omega) (by decide)) dX6_gets_73 (moF E g th (upd (mdE nb va se (va_up rv u (rvE li K (go + 1) tn lo L.length w))) (14 + 30 * u + 3) tn) aa sv sm tx ln ro ai wr dg) (congrArg (fun z : Nat => (Sum.inl (E.2.1, 104, Sum.inl (upd (mdE nb va se (va_up rv u (rvE li K (go + 1) tn lo L.length w))) z tn)) : va_E)) (nI_clamp (by omega)).symm) mo_ne1 (fun H_11 locs_11 hP hS => ?_)
    rw [show (upd (mdE nb va se (va_up rv u (rvE li K (go + 1) tn lo L.length w))) (14 + 30 * u + 3) tn) = (mdE nb va se (va_up rv u (rvE li K (go + 1) tn lo L.length w))) from md_u3] at hP
    refine lv_iload hx hb dX6_gets_74 (lv_at hl 0 rfl) ?_
    refine lv_iconst (v := 1) hx hb dX6_gets_76 (by decide) ?_
    refine lv_icmp_ne (tgt := 95) hx hb dX6_gets_77 (by decide) (fun c_12 => ?_) (fun c_12 => ?_)
    · have n_12 : ¬ ((pc (andn mk K)) = 1) := fun z => c_12 ((nI_eq (a := (pc (andn mk K))) (b := 1) (by omega) (by omega)).mpr z)
      refine lv_iload hx hb dX6_gets_95 (lv_at hl 0 rfl) ?_
      refine lv_iconst (v := 1) hx hb dX6_gets_97 (by decide) ?_
      refine lv_icmp_le (tgt := 157) hx hb dX6_gets_98 (by decide) (fun c_13 => ?_) (fun c_13 => ?_)
      · have n_13 : (pc (andn mk K)) ≤ 1 := (nI_leI (a := (pc (andn mk K))) (b := 1) (by omega) (by omega)).mp c_13
        exfalso
        omega
      · have n_13 : ¬ ((pc (andn mk K)) ≤ 1) := fun z => c_13 ((nI_leI (a := (pc (andn mk K))) (b := 1) (by omega) (by omega)).mpr z)
        refine lv_aload_n hx hb dX6_gets_101 rfl (lv_at hl 3 rfl) ?_
        refine w_get (C := RX6) (T := TX6) (N := 11) (ci := 6) (v := .ref ((g 1))) hx hb hts hin6 hown hK hP 0 (by decide) rfl rfl 1 (by decide) (hts (.fieldLink RX6 7 "MixedBlocksModel" "s" "[I") (List.mem_of_getElem? (i := 1) rfl)) (fun _ h9 => h9) rfl dX6_gets_102 ?_
        refine lv_iload_n hx hb dX6_gets_105 rfl (lv_at hl 4 rfl) ?_
        refine lv_iconst (v := 5) hx hb dX6_gets_106 (by decide) ?_
        refine va_calli (va_runS (As := [.int (nI u), .int 5]) (rest := [.ref ((g 1))]) ⟨hx, hb, hml, hown, hts⟩ (c_X6_of l u 5) (va_cwS 2 hts gX6_gets_X6_of rfl rfl rfl (by decide +kernel) ⟨Nat.le_of_ble_eq_true rfl, Nat.le_of_ble_eq_true rfl⟩) ⟨wU_blind, fun U hU hW => ⟨rfl, trivial⟩⟩ rfl rfl hl.1 rfl (lv_room (Nat.le_of_ble_eq_true rfl)) dX6_gets_107 ⟨Nat.zero_le _, Nat.zero_le _⟩) hS (fun q _ h => h.elim) (fun q h => h.elim) (fun r_14 uu t H_14 locs_14 ht hvm hw hB hz1 hk1 hS => ?_)
        have hP := hP.same hk1
        obtain rfl : r_14 = (nI (14 + 30 * u + 5)) := hw
        refine w_iald hx hb hK hP 1 (by decide) rfl (vp_in_nI (by omega) (by decide)) dX6_gets_110 ?_
        rw [nI_clamp (by omega), md_g5]
        refine lv_bipush (v := 24) hx hb dX6_gets_111 (by decide) ?_
        refine lv_icmp_ge (tgt := 157) hx hb dX6_gets_113 (by decide) (fun c_15 => ?_) (fun c_15 => ?_)
        · have n_15 : 24 ≤ L.length := (nI_leI (a := 24) (b := L.length) (by omega) (by omega)).mp c_15
          refine lv_iload hx hb dX6_gets_157 (lv_at hl 0 rfl) ?_
          refine lv_iconst (v := 1) hx hb dX6_gets_159 (by decide) ?_
          refine lv_icmp_le (tgt := 177) hx hb dX6_gets_160 (by decide) (fun c_16 => ?_) (fun c_16 => ?_)
          · have n_16 : (pc (andn mk K)) ≤ 1 := (nI_leI (a := (pc (andn mk K))) (b := 1) (by omega) (by omega)).mp c_16
            exfalso
            omega
          · have n_16 : ¬ ((pc (andn mk K)) ≤ 1) := fun z => c_16 ((nI_leI (a := (pc (andn mk K))) (b := 1) (by omega) (by omega)).mpr z)
            refine lv_aload_n hx hb dX6_gets_163 rfl (lv_at hl 3 rfl) ?_
            refine w_get (C := RX6) (T := TX6) (N := 11) (ci := 6) (v := .ref ((g 1))) hx hb hts hin6 hown hK hP 0 (by decide) rfl rfl 1 (by decide) (hts (.fieldLink RX6 7 "MixedBlocksModel" "s" "[I") (List.mem_of_getElem? (i := 1) rfl)) (fun _ h9 => h9) rfl dX6_gets_164 ?_
            refine lv_iload_n hx hb dX6_gets_167 rfl (lv_at hl 4 rfl) ?_
            refine lv_iconst (v := 4) hx hb dX6_gets_168 (by decide) ?_
            refine va_calli (va_runS (As := [.int (nI u), .int 4]) (rest := [.ref ((g 1))]) ⟨hx, hb, hml, hown, hts⟩ (c_X6_of l u 4) (va_cwS 2 hts gX6_gets_X6_of rfl rfl rfl (by decide +kernel) ⟨Nat.le_of_ble_eq_true rfl, Nat.le_of_ble_eq_true rfl⟩) ⟨wU_blind, fun U hU hW => ⟨rfl, trivial⟩⟩ rfl rfl hl.1 rfl (lv_room (Nat.le_of_ble_eq_true rfl)) dX6_gets_169 ⟨Nat.zero_le _, Nat.zero_le _⟩) hS (fun q _ h => h.elim) (fun q h => h.elim) (fun r_17 uu t H_17 locs_17 ht hvm hw hB hz1 hk1 hS => ?_)
            have hP := hP.same hk1
            obtain rfl : r_17 = (nI (14 + 30 * u + 4)) := hw
            refine lv_dup2_11 hx hb dX6_gets_172 rfl rfl ?_
            refine w_iald hx hb hK hP 1 (by decide) rfl (vp_in_nI (by omega) (by decide)) dX6_gets_173 ?_
            rw [nI_clamp (by omega), md_g4]
            refine lv_iconst (v := 1) hx hb dX6_gets_174 (by decide) ?_
            refine lv_iadd hx hb dX6_gets_175 ?_
            refine w_iast hx hb hK hP hI hA hS 1 (by decide) rfl (vp_in_nI (by omega) (by decide)) dX6_gets_176 (moF E g th (upd (mdE nb va se (va_up rv u (rvE li K (go + 1) tn lo L.length w))) (14 + 30 * u + 4) (lo + 1)) aa sv sm tx ln ro ai wr dg) (congrArg (fun z : Nat => (Sum.inl (E.2.1, 104, Sum.inl (upd (mdE nb va se (va_up rv u (rvE li K (go + 1) tn lo L.length w))) z (lo + 1))) : va_E)) (nI_clamp (by omega)).symm) mo_ne1 (fun H_18 locs_18 hP hS => ?_)
            rw [show (upd (mdE nb va se (va_up rv u (rvE li K (go + 1) tn lo L.length w))) (14 + 30 * u + 4) (lo + 1)) = (mdE nb va se (va_up rv u (rvE li K (go + 1) tn (lo + 1) L.length w))) from md_u4] at hP
            refine lv_aload_n hx hb dX6_gets_177 rfl (lv_at hl 3 rfl) ?_
            refine w_get (C := RX6) (T := TX6) (N := 11) (ci := 6) (v := .ref ((g 1))) hx hb hts hin6 hown hK hP 0 (by decide) rfl rfl 1 (by decide) (hts (.fieldLink RX6 7 "MixedBlocksModel" "s" "[I") (List.mem_of_getElem? (i := 1) rfl)) (fun _ h9 => h9) rfl dX6_gets_178 ?_
            refine lv_iload_n hx hb dX6_gets_181 rfl (lv_at hl 4 rfl) ?_
            refine lv_iconst (v := 1) hx hb dX6_gets_182 (by decide) ?_
            refine va_calli (va_runS (As := [.int (nI u), .int 1]) (rest := [.ref ((g 1))]) ⟨hx, hb, hml, hown, hts⟩ (c_X6_of l u 1) (va_cwS 2 hts gX6_gets_X6_of rfl rfl rfl (by decide +kernel) ⟨Nat.le_of_ble_eq_true rfl, Nat.le_of_ble_eq_true rfl⟩) ⟨wU_blind, fun U hU hW => ⟨rfl, trivial⟩⟩ rfl rfl hl.1 rfl (lv_room (Nat.le_of_ble_eq_true rfl)) dX6_gets_183 ⟨Nat.zero_le _, Nat.zero_le _⟩) hS (fun q _ h => h.elim) (fun q h => h.elim) (fun r_19 uu t H_19 locs_19 ht hvm hw hB hz1 hk1 hS => ?_)
            have hP := hP.same hk1
            obtain rfl : r_19 = (nI (14 + 30 * u + 1)) := hw
            refine w_iald hx hb hK hP 1 (by decide) rfl (vp_in_nI (by omega) (by decide)) dX6_gets_186 ?_
            rw [nI_clamp (by omega), md_g1]
            refine va_calli (va_runS (As := [.int (nI K)]) (rest := []) ⟨hx, hb, hml, hown, hts⟩ (c_X6_bits l K (by omega)) (va_cwS 1 hts gX6_gets_X6_bits rfl rfl rfl (by decide +kernel) ⟨Nat.le_of_ble_eq_true rfl, Nat.le_of_ble_eq_true rfl⟩) ⟨wU_blind, fun U hU hW => ⟨rfl, trivial⟩⟩ rfl rfl hl.1 rfl (lv_room (Nat.le_of_ble_eq_true rfl)) dX6_gets_187 ⟨Nat.zero_le _, Nat.zero_le _⟩) hS (fun q _ h => h.elim) (fun q h => h.elim) (fun r_21 uu t H_21 locs_21 ht hvm hw hB hz1 hk1 hS => ?_)
            have hP := hP.same hk1
            have hpl_20 := pc_le K
            obtain rfl : r_21 = (nI (pc K)) := hw
            refine lv_iload_n hx hb dX6_gets_190 rfl (lv_at hl 2 rfl) ?_
            refine lv_isub hx hb dX6_gets_191 ?_
            have hg := getM_l (m := mk) (K := K) (go := go) (tn := tn) (lo := lo) (W := L) (by omega) (by omega)
            exact W.iret (v := ((nI (pc K)) - (nI (pc K)))) hx hb hr (fun t ht hW => ⟨⟨_, (), rfl, (by show _ = _; rw [hg]), (by show moR E g th aa sv sm tx ln ro ai wr dg nb va se rv u li ((getM mk (K, go, tn, lo, L)).1) ((getM mk (K, go, tn, lo, L)).2.1) ((getM mk (K, go, tn, lo, L)).2.2.1) ((getM mk (K, go, tn, lo, L)).2.2.2.1) ((getM mk (K, go, tn, lo, L)).2.2.2.2) (t.heap); rw [ht, hg]; exact ⟨w, hP, hw, hok⟩)⟩, hS.F ht⟩) hS.2.2 dX6_gets_192
        · have n_15 : ¬ (24 ≤ L.length) := fun z => c_15 ((nI_leI (a := 24) (b := L.length) (by omega) (by omega)).mpr z)
          refine lv_aload_n hx hb dX6_gets_116 rfl (lv_at hl 3 rfl) ?_
          refine w_get (C := RX6) (T := TX6) (N := 11) (ci := 6) (v := .ref ((g 1))) hx hb hts hin6 hown hK hP 0 (by decide) rfl rfl 1 (by decide) (hts (.fieldLink RX6 7 "MixedBlocksModel" "s" "[I") (List.mem_of_getElem? (i := 1) rfl)) (fun _ h9 => h9) rfl dX6_gets_117 ?_
          refine lv_iload_n hx hb dX6_gets_120 rfl (lv_at hl 4 rfl) ?_
          refine lv_bipush (v := 6) hx hb dX6_gets_121 (by decide) ?_
          refine lv_aload_n hx hb dX6_gets_123 rfl (lv_at hl 3 rfl) ?_
          refine w_get (C := RX6) (T := TX6) (N := 11) (ci := 6) (v := .ref ((g 1))) hx hb hts hin6 hown hK hP 0 (by decide) rfl rfl 1 (by decide) (hts (.fieldLink RX6 7 "MixedBlocksModel" "s" "[I") (List.mem_of_getElem? (i := 1) rfl)) (fun _ h9 => h9) rfl dX6_gets_124 ?_
          refine lv_iload_n hx hb dX6_gets_127 rfl (lv_at hl 4 rfl) ?_
          refine lv_iconst (v := 5) hx hb dX6_gets_128 (by decide) ?_
          refine va_calli (va_runS (As := [.int (nI u), .int 5]) (rest := [.ref ((g 1)), .int 6, .int (nI u), .ref ((g 1))]) ⟨hx, hb, hml, hown, hts⟩ (c_X6_of l u 5) (va_cwS 2 hts gX6_gets_X6_of rfl rfl rfl (by decide +kernel) ⟨Nat.le_of_ble_eq_true rfl, Nat.le_of_ble_eq_true rfl⟩) ⟨wU_blind, fun U hU hW => ⟨rfl, trivial⟩⟩ rfl rfl hl.1 rfl (lv_room (Nat.le_of_ble_eq_true rfl)) dX6_gets_129 ⟨Nat.zero_le _, Nat.zero_le _⟩) hS (fun q _ h => h.elim) (fun q h => h.elim) (fun r_22 uu t H_22 locs_22 ht hvm hw hB hz1 hk1 hS => ?_)
          have hP := hP.same hk1
          obtain rfl : r_22 = (nI (14 + 30 * u + 5)) := hw
          refine w_iald hx hb hK hP 1 (by decide) rfl (vp_in_nI (by omega) (by decide)) dX6_gets_132 ?_
          rw [nI_clamp (by omega), md_g5]
          refine lv_iadd hx hb dX6_gets_133 ?_
          rw [show 6 + (nI L.length) = nI (6 + L.length) from nI_add 6 L.length]
          refine va_calli (va_runS (As := [.int (nI u), .int (nI (6 + L.length))]) (rest := [.ref ((g 1))]) ⟨hx, hb, hml, hown, hts⟩ (c_X6_of l u (6 + L.length)) (va_cwS 2 hts gX6_gets_X6_of rfl rfl rfl (by decide +kernel) ⟨Nat.le_of_ble_eq_true rfl, Nat.le_of_ble_eq_true rfl⟩) ⟨wU_blind, fun U hU hW => ⟨rfl, trivial⟩⟩ rfl rfl hl.1 rfl (lv_room (Nat.le_of_ble_eq_true rfl)) dX6_gets_134 ⟨Nat.zero_le _, Nat.zero_le _⟩) hS (fun q _ h => h.elim) (fun q h => h.elim) (fun r_23 uu t H_23 locs_23 ht hvm hw hB hz1 hk1 hS => ?_)
          have hP := hP.same hk1
          obtain rfl : r_23 = (nI (14 + 30 * u + (6 + L.length))) := hw
          refine lv_iload hx hb dX6_gets_137 (lv_at hl 1 rfl) ?_
          refine w_iast hx hb hK hP hI hA hS 1 (by decide) rfl (vp_in_nI (by omega) (by decide)) dX6_gets_139 (moF E g th (upd (mdE nb va se (va_up rv u (rvE li K (go + 1) tn lo L.length w))) (14 + 30 * u + (6 + L.length)) (nI (andn mk K))) aa sv sm tx ln ro ai wr dg) (congrArg (fun z : Nat => (Sum.inl (E.2.1, 104, Sum.inl (upd (mdE nb va se (va_up rv u (rvE li K (go + 1) tn lo L.length w))) z (nI (andn mk K)))) : va_E)) (nI_clamp (by omega)).symm) mo_ne1 (fun H_24 locs_24 hP hS => ?_)
          rw [show (upd (mdE nb va se (va_up rv u (rvE li K (go + 1) tn lo L.length w))) (14 + 30 * u + (6 + L.length)) (nI (andn mk K))) = (mdE nb va se (va_up rv u (rvE li K (go + 1) tn lo L.length (upd w L.length (nI (andn mk K)))))) from md_uw (k := L.length) (by omega)] at hP
          refine lv_aload_n hx hb dX6_gets_140 rfl (lv_at hl 3 rfl) ?_
          refine w_get (C := RX6) (T := TX6) (N := 11) (ci := 6) (v := .ref ((g 1))) hx hb hts hin6 hown hK hP 0 (by decide) rfl rfl 1 (by decide) (hts (.fieldLink RX6 7 "MixedBlocksModel" "s" "[I") (List.mem_of_getElem? (i := 1) rfl)) (fun _ h9 => h9) rfl dX6_gets_141 ?_
          refine lv_iload_n hx hb dX6_gets_144 rfl (lv_at hl 4 rfl) ?_
          refine lv_iconst (v := 5) hx hb dX6_gets_145 (by decide) ?_
          refine va_calli (va_runS (As := [.int (nI u), .int 5]) (rest := [.ref ((g 1))]) ⟨hx, hb, hml, hown, hts⟩ (c_X6_of l u 5) (va_cwS 2 hts gX6_gets_X6_of rfl rfl rfl (by decide +kernel) ⟨Nat.le_of_ble_eq_true rfl, Nat.le_of_ble_eq_true rfl⟩) ⟨wU_blind, fun U hU hW => ⟨rfl, trivial⟩⟩ rfl rfl hl.1 rfl (lv_room (Nat.le_of_ble_eq_true rfl)) dX6_gets_146 ⟨Nat.zero_le _, Nat.zero_le _⟩) hS (fun q _ h => h.elim) (fun q h => h.elim) (fun r_25 uu t H_25 locs_25 ht hvm hw hB hz1 hk1 hS => ?_)
          have hP := hP.same hk1
          obtain rfl : r_25 = (nI (14 + 30 * u + 5)) := hw
          refine lv_dup2_11 hx hb dX6_gets_149 rfl rfl ?_
          refine w_iald hx hb hK hP 1 (by decide) rfl (vp_in_nI (by omega) (by decide)) dX6_gets_150 ?_
          rw [nI_clamp (by omega), md_g5]
          refine lv_iconst (v := 1) hx hb dX6_gets_151 (by decide) ?_
          refine lv_iadd hx hb dX6_gets_152 ?_
          rw [show (nI L.length) + 1 = nI (L.length + 1) from nI_add L.length 1]
          refine w_iast hx hb hK hP hI hA hS 1 (by decide) rfl (vp_in_nI (by omega) (by decide)) dX6_gets_153 (moF E g th (upd (mdE nb va se (va_up rv u (rvE li K (go + 1) tn lo L.length (upd w L.length (nI (andn mk K)))))) (14 + 30 * u + 5) (nI (L.length + 1))) aa sv sm tx ln ro ai wr dg) (congrArg (fun z : Nat => (Sum.inl (E.2.1, 104, Sum.inl (upd (mdE nb va se (va_up rv u (rvE li K (go + 1) tn lo L.length (upd w L.length (nI (andn mk K)))))) z (nI (L.length + 1)))) : va_E)) (nI_clamp (by omega)).symm) mo_ne1 (fun H_26 locs_26 hP hS => ?_)
          rw [show (upd (mdE nb va se (va_up rv u (rvE li K (go + 1) tn lo L.length (upd w L.length (nI (andn mk K)))))) (14 + 30 * u + 5) (nI (L.length + 1))) = (mdE nb va se (va_up rv u (rvE li K (go + 1) tn lo (L.length + 1) (upd w L.length (nI (andn mk K)))))) from md_u5 (n' := (L.length + 1))] at hP
          refine lv_goto (tgt := 177) hx hb dX6_gets_154 (by decide) ?_
          refine lv_aload_n hx hb dX6_gets_177 rfl (lv_at hl 3 rfl) ?_
          refine w_get (C := RX6) (T := TX6) (N := 11) (ci := 6) (v := .ref ((g 1))) hx hb hts hin6 hown hK hP 0 (by decide) rfl rfl 1 (by decide) (hts (.fieldLink RX6 7 "MixedBlocksModel" "s" "[I") (List.mem_of_getElem? (i := 1) rfl)) (fun _ h9 => h9) rfl dX6_gets_178 ?_
          refine lv_iload_n hx hb dX6_gets_181 rfl (lv_at hl 4 rfl) ?_
          refine lv_iconst (v := 1) hx hb dX6_gets_182 (by decide) ?_
          refine va_calli (va_runS (As := [.int (nI u), .int 1]) (rest := [.ref ((g 1))]) ⟨hx, hb, hml, hown, hts⟩ (c_X6_of l u 1) (va_cwS 2 hts gX6_gets_X6_of rfl rfl rfl (by decide +kernel) ⟨Nat.le_of_ble_eq_true rfl, Nat.le_of_ble_eq_true rfl⟩) ⟨wU_blind, fun U hU hW => ⟨rfl, trivial⟩⟩ rfl rfl hl.1 rfl (lv_room (Nat.le_of_ble_eq_true rfl)) dX6_gets_183 ⟨Nat.zero_le _, Nat.zero_le _⟩) hS (fun q _ h => h.elim) (fun q h => h.elim) (fun r_27 uu t H_27 locs_27 ht hvm hw hB hz1 hk1 hS => ?_)
          have hP := hP.same hk1
          obtain rfl : r_27 = (nI (14 + 30 * u + 1)) := hw
          refine w_iald hx hb hK hP 1 (by decide) rfl (vp_in_nI (by omega) (by decide)) dX6_gets_186 ?_
          rw [nI_clamp (by omega), md_g1]
          refine va_calli (va_runS (As := [.int (nI K)]) (rest := []) ⟨hx, hb, hml, hown, hts⟩ (c_X6_bits l K (by omega)) (va_cwS 1 hts gX6_gets_X6_bits rfl rfl rfl (by decide +kernel) ⟨Nat.le_of_ble_eq_true rfl, Nat.le_of_ble_eq_true rfl⟩) ⟨wU_blind, fun U hU hW => ⟨rfl, trivial⟩⟩ rfl rfl hl.1 rfl (lv_room (Nat.le_of_ble_eq_true rfl)) dX6_gets_187 ⟨Nat.zero_le _, Nat.zero_le _⟩) hS (fun q _ h => h.elim) (fun q h => h.elim) (fun r_29 uu t H_29 locs_29 ht hvm hw hB hz1 hk1 hS => ?_)
          have hP := hP.same hk1
          have hpl_28 := pc_le K
          obtain rfl : r_29 = (nI (pc K)) := hw
          refine lv_iload_n hx hb dX6_gets_190 rfl (lv_at hl 2 rfl) ?_
          refine lv_isub hx hb dX6_gets_191 ?_
          have hg := getM_w (m := mk) (K := K) (go := go) (tn := tn) (lo := lo) (W := L) (by omega) (by omega)
          exact W.iret (v := ((nI (pc K)) - (nI (pc K)))) hx hb hr (fun t ht hW => ⟨⟨_, (), rfl, (by show _ = _; rw [hg]), (by show moR E g th aa sv sm tx ln ro ai wr dg nb va se rv u li ((getM mk (K, go, tn, lo, L)).1) ((getM mk (K, go, tn, lo, L)).2.1) ((getM mk (K, go, tn, lo, L)).2.2.1) ((getM mk (K, go, tn, lo, L)).2.2.2.1) ((getM mk (K, go, tn, lo, L)).2.2.2.2) (t.heap); rw [ht, hg]; exact ⟨_, (by rw [List.length_append, List.length_singleton]; exact hP), pushM_get hw, pushM_ok hok (by omega) hlt⟩)⟩, hS.F ht⟩) hS.2.2 dX6_gets_192
    · have n_12 : (pc (andn mk K)) = 1 := (nI_eq (a := (pc (andn mk K))) (b := 1) (by omega) (by omega)).mp c_12
      refine lv_aload_n hx hb dX6_gets_80 rfl (lv_at hl 3 rfl) ?_
      refine lv_iload_n hx hb dX6_gets_81 rfl (lv_at hl 4 rfl) ?_
      refine lv_iload hx hb dX6_gets_82 (lv_at hl 1 rfl) ?_
      refine va_callv (va_runV (As := [.int (nI u), .int (nI (andn mk K))]) (rest := []) ⟨hx, hb, hml, hown, hts⟩ (c_X6_knows l E g th aa sv sm tx ln ro ai wr dg nb va se rv u li K (go + 1) tn lo L hu3 (andn mk K) (by omega)) (cwV 2 hts gX6_gets_X6_knows rfl rfl rfl (by decide +kernel) ⟨Nat.le_of_ble_eq_true rfl, Nat.le_of_ble_eq_true rfl⟩) ⟨wS.blind, (w_recv hK hP 0 (by decide) rfl (ci := 6) rfl), fun U hU hW => wS.go ⟨_, hP, hw, hok⟩ hK hI hU hW⟩ rfl rfl hl.1 rfl (lv_room (Nat.le_of_ble_eq_true rfl)) dX6_gets_84 ⟨Nat.zero_le _, Nat.zero_le _⟩) hS (fun q _ h => h) (fun q h => h) (fun uu t H_30 locs_30 ht hvm hw hB hz1 hk1 hS => ?_)
      rw [ht] at hB
      obtain ⟨w_30, hP, hw_30, hok_30⟩ := hB
      have hP : wP E 6 g (moF E g th (mdE nb va se (va_up rv u (rvE li (K ||| (andn mk K)) (go + 1) tn lo ((knW (andn mk K) L).length) w_30))) aa sv sm tx ln ro ai wr dg) H_30 := hP
      have hkk_30 := hok_30.2.1
      refine lv_aload_n hx hb dX6_gets_87 rfl (lv_at hl 3 rfl) ?_
      refine lv_iload_n hx hb dX6_gets_88 rfl (lv_at hl 4 rfl) ?_
      refine va_callv (va_runV (As := [.int (nI u)]) (rest := []) ⟨hx, hb, hml, hown, hts⟩ (c_X6_peel l E g th aa sv sm tx ln ro ai wr dg nb va se rv u li (K ||| (andn mk K)) (go + 1) tn lo (knW (andn mk K) L) hu3 ) (cwV 1 hts gX6_gets_X6_peel rfl rfl rfl (by decide +kernel) ⟨Nat.le_of_ble_eq_true rfl, Nat.le_of_ble_eq_true rfl⟩) ⟨wS.blind, (w_recv hK hP 0 (by decide) rfl (ci := 6) rfl), fun U hU hW => wS.go ⟨_, hP, hw_30, hok_30⟩ hK hI hU hW⟩ rfl rfl hl.1 rfl (lv_room (Nat.le_of_ble_eq_true rfl)) dX6_gets_89 ⟨Nat.zero_le _, Nat.zero_le _⟩) hS (fun q _ h => h) (fun q h => h) (fun uu t H_31 locs_31 ht hvm hw hB hz1 hk1 hS => ?_)
      rw [ht] at hB
      obtain ⟨w_31, hP, hw_31, hok_31⟩ := hB
      have hP : wP E 6 g (moF E g th (mdE nb va se (va_up rv u (rvE li ((plM (knW (andn mk K) L).length (K ||| (andn mk K)) tn (knW (andn mk K) L)).1) (go + 1) ((plM (knW (andn mk K) L).length (K ||| (andn mk K)) tn (knW (andn mk K) L)).2.1) lo (((plM (knW (andn mk K) L).length (K ||| (andn mk K)) tn (knW (andn mk K) L)).2.2).length) w_31))) aa sv sm tx ln ro ai wr dg) H_31 := hP
      have hkk_31 := hok_31.2.1
      refine lv_goto (tgt := 177) hx hb dX6_gets_92 (by decide) ?_
      refine lv_aload_n hx hb dX6_gets_177 rfl (lv_at hl 3 rfl) ?_
      refine w_get (C := RX6) (T := TX6) (N := 11) (ci := 6) (v := .ref ((g 1))) hx hb hts hin6 hown hK hP 0 (by decide) rfl rfl 1 (by decide) (hts (.fieldLink RX6 7 "MixedBlocksModel" "s" "[I") (List.mem_of_getElem? (i := 1) rfl)) (fun _ h9 => h9) rfl dX6_gets_178 ?_
      refine lv_iload_n hx hb dX6_gets_181 rfl (lv_at hl 4 rfl) ?_
      refine lv_iconst (v := 1) hx hb dX6_gets_182 (by decide) ?_
      refine va_calli (va_runS (As := [.int (nI u), .int 1]) (rest := [.ref ((g 1))]) ⟨hx, hb, hml, hown, hts⟩ (c_X6_of l u 1) (va_cwS 2 hts gX6_gets_X6_of rfl rfl rfl (by decide +kernel) ⟨Nat.le_of_ble_eq_true rfl, Nat.le_of_ble_eq_true rfl⟩) ⟨wU_blind, fun U hU hW => ⟨rfl, trivial⟩⟩ rfl rfl hl.1 rfl (lv_room (Nat.le_of_ble_eq_true rfl)) dX6_gets_183 ⟨Nat.zero_le _, Nat.zero_le _⟩) hS (fun q _ h => h.elim) (fun q h => h.elim) (fun r_32 uu t H_32 locs_32 ht hvm hw hB hz1 hk1 hS => ?_)
      have hP := hP.same hk1
      obtain rfl : r_32 = (nI (14 + 30 * u + 1)) := hw
      refine w_iald hx hb hK hP 1 (by decide) rfl (vp_in_nI (by omega) (by decide)) dX6_gets_186 ?_
      rw [nI_clamp (by omega), md_g1]
      refine va_calli (va_runS (As := [.int (nI ((plM (knW (andn mk K) L).length (K ||| (andn mk K)) tn (knW (andn mk K) L)).1))]) (rest := []) ⟨hx, hb, hml, hown, hts⟩ (c_X6_bits l ((plM (knW (andn mk K) L).length (K ||| (andn mk K)) tn (knW (andn mk K) L)).1) (by omega)) (va_cwS 1 hts gX6_gets_X6_bits rfl rfl rfl (by decide +kernel) ⟨Nat.le_of_ble_eq_true rfl, Nat.le_of_ble_eq_true rfl⟩) ⟨wU_blind, fun U hU hW => ⟨rfl, trivial⟩⟩ rfl rfl hl.1 rfl (lv_room (Nat.le_of_ble_eq_true rfl)) dX6_gets_187 ⟨Nat.zero_le _, Nat.zero_le _⟩) hS (fun q _ h => h.elim) (fun q h => h.elim) (fun r_34 uu t H_34 locs_34 ht hvm hw hB hz1 hk1 hS => ?_)
      have hP := hP.same hk1
      have hpl_33 := pc_le ((plM (knW (andn mk K) L).length (K ||| (andn mk K)) tn (knW (andn mk K) L)).1)
      obtain rfl : r_34 = (nI (pc ((plM (knW (andn mk K) L).length (K ||| (andn mk K)) tn (knW (andn mk K) L)).1))) := hw
      refine lv_iload_n hx hb dX6_gets_190 rfl (lv_at hl 2 rfl) ?_
      refine lv_isub hx hb dX6_gets_191 ?_
      have hg := getM_1 (m := mk) (K := K) (go := go) (tn := tn) (lo := lo) (W := L) (by omega)
      exact W.iret (v := ((nI (pc ((plM (knW (andn mk K) L).length (K ||| (andn mk K)) tn (knW (andn mk K) L)).1))) - (nI (pc K)))) hx hb hr (fun t ht hW => ⟨⟨_, (), rfl, (by show _ = _; rw [hg]), (by show moR E g th aa sv sm tx ln ro ai wr dg nb va se rv u li ((getM mk (K, go, tn, lo, L)).1) ((getM mk (K, go, tn, lo, L)).2.1) ((getM mk (K, go, tn, lo, L)).2.2.1) ((getM mk (K, go, tn, lo, L)).2.2.2.1) ((getM mk (K, go, tn, lo, L)).2.2.2.2) (t.heap); rw [ht, hg]; exact ⟨_, hP, hw_31, hok_31⟩)⟩, hS.F ht⟩) hS.2.2 dX6_gets_192
  · have n_10 : (pc (andn mk K)) = 0 := (nI_eq (a := (pc (andn mk K))) (b := 0) (by omega) (by omega)).mp c_10
    refine lv_iconst (v := 1) hx hb dX6_gets_67 (by decide) ?_
    refine lv_goto (tgt := 72) hx hb dX6_gets_68 (by decide) ?_
    refine lv_iadd hx hb dX6_gets_72 ?_
    refine w_iast hx hb hK hP hI hA hS 1 (by decide) rfl (vp_in_nI (by omega) (by decide)) dX6_gets_73 (moF E g th (upd (mdE nb va se (va_up rv u (rvE li K (go + 1) tn lo L.length w))) (14 + 30 * u + 3) (tn + 1)) aa sv sm tx ln ro ai wr dg) (congrArg (fun z : Nat => (Sum.inl (E.2.1, 104, Sum.inl (upd (mdE nb va se (va_up rv u (rvE li K (go + 1) tn lo L.length w))) z (tn + 1))) : va_E)) (nI_clamp (by omega)).symm) mo_ne1 (fun H_35 locs_35 hP hS => ?_)
    rw [show (upd (mdE nb va se (va_up rv u (rvE li K (go + 1) tn lo L.length w))) (14 + 30 * u + 3) (tn + 1)) = (mdE nb va se (va_up rv u (rvE li K (go + 1) (tn + 1) lo L.length w))) from md_u3] at hP
    refine lv_iload hx hb dX6_gets_74 (lv_at hl 0 rfl) ?_
    refine lv_iconst (v := 1) hx hb dX6_gets_76 (by decide) ?_
    refine lv_icmp_ne (tgt := 95) hx hb dX6_gets_77 (by decide) (fun c_36 => ?_) (fun c_36 => ?_)
    · have n_36 : ¬ ((pc (andn mk K)) = 1) := fun z => c_36 ((nI_eq (a := (pc (andn mk K))) (b := 1) (by omega) (by omega)).mpr z)
      refine lv_iload hx hb dX6_gets_95 (lv_at hl 0 rfl) ?_
      refine lv_iconst (v := 1) hx hb dX6_gets_97 (by decide) ?_
      refine lv_icmp_le (tgt := 157) hx hb dX6_gets_98 (by decide) (fun c_37 => ?_) (fun c_37 => ?_)
      · have n_37 : (pc (andn mk K)) ≤ 1 := (nI_leI (a := (pc (andn mk K))) (b := 1) (by omega) (by omega)).mp c_37
        refine lv_iload hx hb dX6_gets_157 (lv_at hl 0 rfl) ?_
        refine lv_iconst (v := 1) hx hb dX6_gets_159 (by decide) ?_
        refine lv_icmp_le (tgt := 177) hx hb dX6_gets_160 (by decide) (fun c_38 => ?_) (fun c_38 => ?_)
        · have n_38 : (pc (andn mk K)) ≤ 1 := (nI_leI (a := (pc (andn mk K))) (b := 1) (by omega) (by omega)).mp c_38
          refine lv_aload_n hx hb dX6_gets_177 rfl (lv_at hl 3 rfl) ?_
          refine w_get (C := RX6) (T := TX6) (N := 11) (ci := 6) (v := .ref ((g 1))) hx hb hts hin6 hown hK hP 0 (by decide) rfl rfl 1 (by decide) (hts (.fieldLink RX6 7 "MixedBlocksModel" "s" "[I") (List.mem_of_getElem? (i := 1) rfl)) (fun _ h9 => h9) rfl dX6_gets_178 ?_
          refine lv_iload_n hx hb dX6_gets_181 rfl (lv_at hl 4 rfl) ?_
          refine lv_iconst (v := 1) hx hb dX6_gets_182 (by decide) ?_
          refine va_calli (va_runS (As := [.int (nI u), .int 1]) (rest := [.ref ((g 1))]) ⟨hx, hb, hml, hown, hts⟩ (c_X6_of l u 1) (va_cwS 2 hts gX6_gets_X6_of rfl rfl rfl (by decide +kernel) ⟨Nat.le_of_ble_eq_true rfl, Nat.le_of_ble_eq_true rfl⟩) ⟨wU_blind, fun U hU hW => ⟨rfl, trivial⟩⟩ rfl rfl hl.1 rfl (lv_room (Nat.le_of_ble_eq_true rfl)) dX6_gets_183 ⟨Nat.zero_le _, Nat.zero_le _⟩) hS (fun q _ h => h.elim) (fun q h => h.elim) (fun r_39 uu t H_39 locs_39 ht hvm hw hB hz1 hk1 hS => ?_)
          have hP := hP.same hk1
          obtain rfl : r_39 = (nI (14 + 30 * u + 1)) := hw
          refine w_iald hx hb hK hP 1 (by decide) rfl (vp_in_nI (by omega) (by decide)) dX6_gets_186 ?_
          rw [nI_clamp (by omega), md_g1]
          refine va_calli (va_runS (As := [.int (nI K)]) (rest := []) ⟨hx, hb, hml, hown, hts⟩ (c_X6_bits l K (by omega)) (va_cwS 1 hts gX6_gets_X6_bits rfl rfl rfl (by decide +kernel) ⟨Nat.le_of_ble_eq_true rfl, Nat.le_of_ble_eq_true rfl⟩) ⟨wU_blind, fun U hU hW => ⟨rfl, trivial⟩⟩ rfl rfl hl.1 rfl (lv_room (Nat.le_of_ble_eq_true rfl)) dX6_gets_187 ⟨Nat.zero_le _, Nat.zero_le _⟩) hS (fun q _ h => h.elim) (fun q h => h.elim) (fun r_41 uu t H_41 locs_41 ht hvm hw hB hz1 hk1 hS => ?_)
          have hP := hP.same hk1
          have hpl_40 := pc_le K
          obtain rfl : r_41 = (nI (pc K)) := hw
          refine lv_iload_n hx hb dX6_gets_190 rfl (lv_at hl 2 rfl) ?_
          refine lv_isub hx hb dX6_gets_191 ?_
          have hg := getM_0 (m := mk) (K := K) (go := go) (tn := tn) (lo := lo) (W := L) (by omega)
          exact W.iret (v := ((nI (pc K)) - (nI (pc K)))) hx hb hr (fun t ht hW => ⟨⟨_, (), rfl, (by show _ = _; rw [hg]), (by show moR E g th aa sv sm tx ln ro ai wr dg nb va se rv u li ((getM mk (K, go, tn, lo, L)).1) ((getM mk (K, go, tn, lo, L)).2.1) ((getM mk (K, go, tn, lo, L)).2.2.1) ((getM mk (K, go, tn, lo, L)).2.2.2.1) ((getM mk (K, go, tn, lo, L)).2.2.2.2) (t.heap); rw [ht, hg]; exact ⟨w, hP, hw, hok⟩)⟩, hS.F ht⟩) hS.2.2 dX6_gets_192
        · have n_38 : ¬ ((pc (andn mk K)) ≤ 1) := fun z => c_38 ((nI_leI (a := (pc (andn mk K))) (b := 1) (by omega) (by omega)).mpr z)
          exfalso
          omega
      · have n_37 : ¬ ((pc (andn mk K)) ≤ 1) := fun z => c_37 ((nI_leI (a := (pc (andn mk K))) (b := 1) (by omega) (by omega)).mpr z)
        exfalso
        omega
    · have n_36 : (pc (andn mk K)) = 1 := (nI_eq (a := (pc (andn mk K))) (b := 1) (by omega) (by omega)).mp c_36
      exfalso
      omega
set_option maxHeartbeats 4000000 in
set_option maxRecDepth 100000 in
theorem c_X6_reduce (l : Launch) (E : wE) (g : Nat → Nat) (th : Int32) (aa sv : Nat → Int32) (sm : Nat) (tx : Nat → Int32) (ln : Nat) (ro : Nat → Int32) (ai : Nat) (wr : Bool) (dg : Int64) (nb : Nat) (va : Nat → Int32) (se : Int32) (rv : Nat → Nat → Int32) (u : Nat) (li : Bool) (K : Nat) (go tn lo : Int32) (L : List Nat) (hu3 : u < 3)  : Met l yX6_reduce wsX6_reduce ({ frames := 1, cells := 0, slots := 0, locals := 21 }) (va_Pc [.ref ((g 0)), .int (nI u)] (wS E 6 g (fun H => moR E g th aa sv sm tx ln ro ai wr dg nb va se rv u li K go tn lo L (H)))) (va_Qi (fun (r : Int32) (_ : Unit) => r = nI (redW L).length) (fun _ t => ∃ ro2 : Nat → Int32, moR E g th aa sv sm tx ln ro2 ai wr dg nb va se rv u li K go tn lo L (t.heap) ∧ ∀ j, j < (redW L).length → ro2 j = nI ((redW L).getD j 0)) (wF 6 g)) 0 0 (wF 6 g) := by
  refine Met.ofW (cc := cX6_reduce) (maxL := 6) (ret := (some .int)) (by decide) rfl ?_
  intro p e s m args below meth c s₁ B hml hv
  obtain ⟨rfl, ⟨w, hP, hw, hok⟩, hK, hI⟩ := hv
  have hx := B.exec
  have hb := B.bytes
  have hr := B.returns
  have hts := atoms_spec (ws := wsX6_reduce) B.pre
  have hown : s.vm.findClass RX6 = some m.cls := findClass_of_methodNamed B.named
  have hlocks := B.notSynchronized
  have hS : va_S (wF 6 g) s.heap s.heap [] := va_S.rf
  have hin6 : ∀ w ∈ wsX60, w ∈ wsX6_reduce := by decide +kernel
  have hA : ∀ k, k < 6 → (wF 6 g) (g k) := wF_in
  have hl := lv_entry ([.ref ((g 0)), .int (nI u)]) (n := 6) (Nat.le_of_ble_eq_true rfl)
  rw [lg_entry_eq]
  generalize (lg_sl ([.ref ((g 0)), .int (nI u)]) ++ List.replicate (6 - (lg_sl ([.ref ((g 0)), .int (nI u)])).length) Slot.unset).toArray = ls at hl ⊢
  have hl : lv_has ls 6 [(0, .ref ((g 0))), (1, .int (nI u))] := hl
  have hP : wP E 6 g (moF E g th (mdE nb va se (va_up rv u (rvE li K go tn lo L.length w))) aa sv sm tx ln ro ai wr dg) s.heap := hP
  obtain ⟨hWl, hK12, hW12⟩ := id hok
  refine lv_iconst (v := 0) hx hb dX6_reduce_0 (by decide) ?_
  refine lv_istore_n (lv' := [(2, .int 0), (0, .ref ((g 0))), (1, .int (nI u))]) hx hb dX6_reduce_1 rfl hl (by decide) rfl (fun ls hl => ?_)
  refine lv_iconst (v := 0) hx hb dX6_reduce_2 (by decide) ?_
  refine lv_istore_n (lv' := [(3, .int 0), (2, .int 0), (0, .ref ((g 0))), (1, .int (nI u))]) hx hb dX6_reduce_3 rfl hl (by decide) rfl (fun ls hl => ?_)
  have L4 : ∀ (k : Nat) (i : Nat) (R : List Nat) (ro2 : Nat → Int32) (H : Heap) (locs : List Loc) (ls : Array Slot), i + k = L.length → (L.drop i).foldl redS R = redW L → (∀ j, j < R.length → ro2 j = nI (R.getD j 0)) → rIv R → wP E 6 g (moF E g th (mdE nb va se (va_up rv u (rvE li K go tn lo L.length w))) aa sv sm tx ln ro2 ai wr dg) H → va_S (wF 6 g) s.heap H locs → lv_has ls 6 [(3, .int (nI i)), (2, .int (nI R.length)), (0, .ref ((g 0))), (1, .int (nI u))] → W p l e (headSpec wsX6_reduce ({ frames := 1, cells := 0, slots := 0, locals := 21 })).room s m ([.ref ((g 0)), .int (nI u)] : List Value).toArray below meth c H locs 0 0 (MQ below (va_Qi (fun (r : Int32) (_ : Unit) => r = nI (redW L).length) (fun _ t => ∃ ro2 : Nat → Int32, moR E g th aa sv sm tx ln ro2 ai wr dg nb va se rv u li K go tn lo L (t.heap) ∧ ∀ j, j < (redW L).length → ro2 j = nI ((redW L).getD j 0)) (wF 6 g)) ([.ref ((g 0)), .int (nI u)] : List Value).toArray s 0 0 (wF 6 g)) (F0 m 4 ls []) := by
    intro k
    induction k with
    | zero =>
      intro i R ro2 H locs ls hi hres hRl hRv hP hS hl
      refine lv_iload_n hx hb dX6_reduce_4 rfl (lv_at hl 0 rfl) ?_
      refine lv_aload_n hx hb dX6_reduce_5 rfl (lv_at hl 2 rfl) ?_
      refine w_get (C := RX6) (T := TX6) (N := 11) (ci := 6) (v := .ref ((g 1))) hx hb hts hin6 hown hK hP 0 (by decide) rfl rfl 1 (by decide) (hts (.fieldLink RX6 7 "MixedBlocksModel" "s" "[I") (List.mem_of_getElem? (i := 1) rfl)) (fun _ h9 => h9) rfl dX6_reduce_6 ?_
      refine lv_iload_n hx hb dX6_reduce_9 rfl (lv_at hl 3 rfl) ?_
      refine lv_iconst (v := 5) hx hb dX6_reduce_10 (by decide) ?_
      refine va_calli (va_runS (As := [.int (nI u), .int 5]) (rest := [.ref ((g 1)), .int (nI i)]) ⟨hx, hb, hml, hown, hts⟩ (c_X6_of l u 5) (va_cwS 2 hts gX6_reduce_X6_of rfl rfl rfl (by decide +kernel) ⟨Nat.le_of_ble_eq_true rfl, Nat.le_of_ble_eq_true rfl⟩) ⟨wU_blind, fun U hU hW => ⟨rfl, trivial⟩⟩ rfl rfl hl.1 rfl (lv_room (Nat.le_of_ble_eq_true rfl)) dX6_reduce_11 ⟨Nat.zero_le _, Nat.zero_le _⟩) hS (fun q _ h => h.elim) (fun q h => h.elim) (fun r_1 uu t H_1 locs_1 ht hvm hw hB hz1 hk1 hS => ?_)
      have hP := hP.same hk1
      obtain rfl : r_1 = (nI (14 + 30 * u + 5)) := hw
      refine w_iald hx hb hK hP 1 (by decide) rfl (vp_in_nI (by omega) (by decide)) dX6_reduce_14 ?_
      rw [nI_clamp (by omega), md_g5]
      refine lv_icmp_ge (tgt := 149) hx hb dX6_reduce_15 (by decide) (fun c_2 => ?_) (fun c_2 => ?_)
      · have n_2 : L.length ≤ i := (nI_leI (a := L.length) (b := i) (by omega) (by omega)).mp c_2
        refine lv_iload_n hx hb dX6_reduce_149 rfl (lv_at hl 1 rfl) ?_
        have hre := drop_endN (by omega) hres
        exact W.iret (v := (nI R.length)) hx hb hr (fun t ht hW => ⟨⟨_, (), rfl, (by show _ = _; rw [hre]), (by show ∃ ro2 : Nat → Int32, moR E g th aa sv sm tx ln ro2 ai wr dg nb va se rv u li K go tn lo L (t.heap) ∧ ∀ j, j < (redW L).length → ro2 j = nI ((redW L).getD j 0); rw [ht, ← hre]; exact ⟨ro2, ⟨w, hP, hw, hok⟩, hRl⟩)⟩, hS.F ht⟩) hS.2.2 dX6_reduce_150
      · have n_2 : ¬ (L.length ≤ i) := fun z => c_2 ((nI_leI (a := L.length) (b := i) (by omega) (by omega)).mpr z)
        exfalso
        omega
    | succ k ihk =>
      intro i R ro2 H locs ls hi hres hRl hRv hP hS hl
      refine lv_iload_n hx hb dX6_reduce_4 rfl (lv_at hl 0 rfl) ?_
      refine lv_aload_n hx hb dX6_reduce_5 rfl (lv_at hl 2 rfl) ?_
      refine w_get (C := RX6) (T := TX6) (N := 11) (ci := 6) (v := .ref ((g 1))) hx hb hts hin6 hown hK hP 0 (by decide) rfl rfl 1 (by decide) (hts (.fieldLink RX6 7 "MixedBlocksModel" "s" "[I") (List.mem_of_getElem? (i := 1) rfl)) (fun _ h9 => h9) rfl dX6_reduce_6 ?_
      refine lv_iload_n hx hb dX6_reduce_9 rfl (lv_at hl 3 rfl) ?_
      refine lv_iconst (v := 5) hx hb dX6_reduce_10 (by decide) ?_
      refine va_calli (va_runS (As := [.int (nI u), .int 5]) (rest := [.ref ((g 1)), .int (nI i)]) ⟨hx, hb, hml, hown, hts⟩ (c_X6_of l u 5) (va_cwS 2 hts gX6_reduce_X6_of rfl rfl rfl (by decide +kernel) ⟨Nat.le_of_ble_eq_true rfl, Nat.le_of_ble_eq_true rfl⟩) ⟨wU_blind, fun U hU hW => ⟨rfl, trivial⟩⟩ rfl rfl hl.1 rfl (lv_room (Nat.le_of_ble_eq_true rfl)) dX6_reduce_11 ⟨Nat.zero_le _, Nat.zero_le _⟩) hS (fun q _ h => h.elim) (fun q h => h.elim) (fun r_3 uu t H_3 locs_3 ht hvm hw hB hz1 hk1 hS => ?_)
      have hP := hP.same hk1
      obtain rfl : r_3 = (nI (14 + 30 * u + 5)) := hw
      refine w_iald hx hb hK hP 1 (by decide) rfl (vp_in_nI (by omega) (by decide)) dX6_reduce_14 ?_
      rw [nI_clamp (by omega), md_g5]
      refine lv_icmp_ge (tgt := 149) hx hb dX6_reduce_15 (by decide) (fun c_4 => ?_) (fun c_4 => ?_)
      · have n_4 : L.length ≤ i := (nI_leI (a := L.length) (b := i) (by omega) (by omega)).mp c_4
        exfalso
        omega
      · have n_4 : ¬ (L.length ≤ i) := fun z => c_4 ((nI_leI (a := L.length) (b := i) (by omega) (by omega)).mpr z)
        refine lv_aload_n hx hb dX6_reduce_18 rfl (lv_at hl 2 rfl) ?_
        refine w_get (C := RX6) (T := TX6) (N := 11) (ci := 6) (v := .ref ((g 1))) hx hb hts hin6 hown hK hP 0 (by decide) rfl rfl 1 (by decide) (hts (.fieldLink RX6 7 "MixedBlocksModel" "s" "[I") (List.mem_of_getElem? (i := 1) rfl)) (fun _ h9 => h9) rfl dX6_reduce_19 ?_
        refine lv_iload_n hx hb dX6_reduce_22 rfl (lv_at hl 3 rfl) ?_
        refine lv_bipush (v := 6) hx hb dX6_reduce_23 (by decide) ?_
        refine lv_iload_n hx hb dX6_reduce_25 rfl (lv_at hl 0 rfl) ?_
        refine lv_iadd hx hb dX6_reduce_26 ?_
        rw [show 6 + (nI i) = nI (6 + i) from nI_add 6 i]
        refine va_calli (va_runS (As := [.int (nI u), .int (nI (6 + i))]) (rest := [.ref ((g 1))]) ⟨hx, hb, hml, hown, hts⟩ (c_X6_of l u (6 + i)) (va_cwS 2 hts gX6_reduce_X6_of rfl rfl rfl (by decide +kernel) ⟨Nat.le_of_ble_eq_true rfl, Nat.le_of_ble_eq_true rfl⟩) ⟨wU_blind, fun U hU hW => ⟨rfl, trivial⟩⟩ rfl rfl hl.1 rfl (lv_room (Nat.le_of_ble_eq_true rfl)) dX6_reduce_27 ⟨Nat.zero_le _, Nat.zero_le _⟩) hS (fun q _ h => h.elim) (fun q h => h.elim) (fun r_5 uu t H_5 locs_5 ht hvm hw hB hz1 hk1 hS => ?_)
        have hP := hP.same hk1
        obtain rfl : r_5 = (nI (14 + 30 * u + (6 + i))) := hw
        refine w_iald hx hb hK hP 1 (by decide) rfl (vp_in_nI (by omega) (by decide)) dX6_reduce_30 ?_
        rw [nI_clamp (by omega), md_gw (k := i) (by omega)]
        have hwb_6 := hok.2.2 (i) (by omega)
        rw [hw _ (by omega)]
        refine lv_istore (lv' := [(4, .int (nI (L.getD i 0))), (3, .int (nI i)), (2, .int (nI R.length)), (0, .ref ((g 0))), (1, .int (nI u))]) hx hb dX6_reduce_31 hl (by decide) rfl (fun ls hl => ?_)
        refine lv_iconst (v := 0) hx hb dX6_reduce_33 (by decide) ?_
        refine lv_istore (lv' := [(5, .int 0), (4, .int (nI (L.getD i 0))), (3, .int (nI i)), (2, .int (nI R.length)), (0, .ref ((g 0))), (1, .int (nI u))]) hx hb dX6_reduce_34 hl (by decide) rfl (fun ls hl => ?_)
        have hRlen := rIv_len hRv
        have L36 : ∀ (k2 : Nat) (j x : Nat) (H : Heap) (locs : List Loc) (ls : Array Slot), j + k2 = R.length → x < 4096 → (R.drop j).foldl xS x = xr R (L.getD i 0) → wP E 6 g (moF E g th (mdE nb va se (va_up rv u (rvE li K go tn lo L.length w))) aa sv sm tx ln ro2 ai wr dg) H → va_S (wF 6 g) s.heap H locs → lv_has ls 6 [(5, .int (nI j)), (4, .int (nI x)), (3, .int (nI i)), (2, .int (nI R.length)), (0, .ref ((g 0))), (1, .int (nI u))] → W p l e (headSpec wsX6_reduce ({ frames := 1, cells := 0, slots := 0, locals := 21 })).room s m ([.ref ((g 0)), .int (nI u)] : List Value).toArray below meth c H locs 0 0 (MQ below (va_Qi (fun (r : Int32) (_ : Unit) => r = nI (redW L).length) (fun _ t => ∃ ro2 : Nat → Int32, moR E g th aa sv sm tx ln ro2 ai wr dg nb va se rv u li K go tn lo L (t.heap) ∧ ∀ j, j < (redW L).length → ro2 j = nI ((redW L).getD j 0)) (wF 6 g)) ([.ref ((g 0)), .int (nI u)] : List Value).toArray s 0 0 (wF 6 g)) (F0 m 36 ls []) := by
          intro k2
          induction k2 with
          | zero =>
            intro j x H locs ls hj hx9 hxr hP hS hl
            refine lv_iload hx hb dX6_reduce_36 (lv_at hl 0 rfl) ?_
            refine lv_iload_n hx hb dX6_reduce_38 rfl (lv_at hl 3 rfl) ?_
            refine lv_icmp_ge (tgt := 80) hx hb dX6_reduce_39 (by decide) (fun c_7 => ?_) (fun c_7 => ?_)
            · have n_7 : R.length ≤ j := (nI_leI (a := R.length) (b := j) (by omega) (by omega)).mp c_7
              have hxe := drop_endN (by omega) hxr
              refine lv_iload hx hb dX6_reduce_80 (lv_at hl 1 rfl) ?_
              refine lv_if_eq (tgt := 143) hx hb dX6_reduce_82 (by decide) (fun c_8 => ?_) (fun c_8 => ?_)
              · have n_8 : x = 0 := (nI_eq (a := x) (b := 0) (by omega) (by omega)).mp c_8
                refine lv_iinc (v := (nI (i + 1))) (lv' := [(3, .int (nI (i + 1))), (5, .int (nI j)), (4, .int (nI x)), (2, .int (nI R.length)), (0, .ref ((g 0))), (1, .int (nI u))]) hx hb dX6_reduce_143 hl (k := 2) rfl (nI_1 _) (by decide) rfl (fun ls hl => ?_)
                refine lv_goto (tgt := 4) hx hb dX6_reduce_146 (by decide) ?_
                have hrs : redS R (L.getD i 0) = R := by rw [redS, if_pos (hxe ▸ n_8)]
                exact ihk (i + 1) R ro2 _ _ ls (by omega) (by have h9 := drop_foldN (by omega) hres; rw [hrs] at h9; exact h9) hRl hRv hP hS (lv_sub hl [0, 3, 4, 5] rfl)
              · have n_8 : ¬ (x = 0) := fun z => c_8 ((nI_eq (a := x) (b := 0) (by omega) (by omega)).mpr z)
                refine lv_iconst (v := 0) hx hb dX6_reduce_85 (by decide) ?_
                refine lv_istore (lv' := [(5, .int 0), (4, .int (nI x)), (3, .int (nI i)), (2, .int (nI R.length)), (0, .ref ((g 0))), (1, .int (nI u))]) hx hb dX6_reduce_86 hl (by decide) rfl (fun ls hl => ?_)
                have hroom := red_room hRv (hok.2.2 i (by omega)) (hxe ▸ n_8)
                have L88 : ∀ (k3 : Nat) (j2 : Nat) (ro3 : Nat → Int32) (H : Heap) (locs : List Loc) (ls : Array Slot), j2 + k3 = R.length → (∀ j, j < R.length → ro3 j = if j < j2 then nI (clr x (R.getD j 0)) else nI (R.getD j 0)) → wP E 6 g (moF E g th (mdE nb va se (va_up rv u (rvE li K go tn lo L.length w))) aa sv sm tx ln ro3 ai wr dg) H → va_S (wF 6 g) s.heap H locs → lv_has ls 6 [(5, .int (nI j2)), (4, .int (nI x)), (3, .int (nI i)), (2, .int (nI R.length)), (0, .ref ((g 0))), (1, .int (nI u))] → W p l e (headSpec wsX6_reduce ({ frames := 1, cells := 0, slots := 0, locals := 21 })).room s m ([.ref ((g 0)), .int (nI u)] : List Value).toArray below meth c H locs 0 0 (MQ below (va_Qi (fun (r : Int32) (_ : Unit) => r = nI (redW L).length) (fun _ t => ∃ ro2 : Nat → Int32, moR E g th aa sv sm tx ln ro2 ai wr dg nb va se rv u li K go tn lo L (t.heap) ∧ ∀ j, j < (redW L).length → ro2 j = nI ((redW L).getD j 0)) (wF 6 g)) ([.ref ((g 0)), .int (nI u)] : List Value).toArray s 0 0 (wF 6 g)) (F0 m 88 ls []) := by
                  intro k3
                  induction k3 with
                  | zero =>
                    intro j2 ro3 H locs ls hj2 hl5 hP hS hl
                    refine lv_iload hx hb dX6_reduce_88 (lv_at hl 0 rfl) ?_
                    refine lv_iload_n hx hb dX6_reduce_90 rfl (lv_at hl 3 rfl) ?_
                    refine lv_icmp_ge (tgt := 132) hx hb dX6_reduce_91 (by decide) (fun c_9 => ?_) (fun c_9 => ?_)
                    · have n_9 : R.length ≤ j2 := (nI_leI (a := R.length) (b := j2) (by omega) (by omega)).mp c_9
                      refine lv_aload_n hx hb dX6_reduce_132 rfl (lv_at hl 4 rfl) ?_
                      refine w_get (C := RX6) (T := TX6) (N := 11) (ci := 6) (v := .ref ((g 5))) hx hb hts hin6 hown hK hP 0 (by decide) rfl rfl 7 (by decide) (hts (.fieldLink RX6 22 "MixedBlocksModel" "row" "[I") (List.mem_of_getElem? (i := 2) rfl)) (fun _ h9 => h9) rfl dX6_reduce_133 ?_
                      refine lv_iload_n hx hb dX6_reduce_136 rfl (lv_at hl 3 rfl) ?_
                      refine lv_iload hx hb dX6_reduce_137 (lv_at hl 1 rfl) ?_
                      refine w_iast hx hb hK hP hI hA hS 5 (by decide) rfl (vp_in_nI (by omega) (by decide)) dX6_reduce_139 (moF E g th (mdE nb va se (va_up rv u (rvE li K go tn lo L.length w))) aa sv sm tx ln (upd ro3 R.length (nI x)) ai wr dg) (congrArg (fun z : Nat => (Sum.inl (E.2.1, 12, Sum.inl (upd ro3 z (nI x))) : va_E)) (nI_clamp (by omega)).symm) mo_ne5 (fun H_10 locs_10 hP hS => ?_)
                      refine lv_iinc (v := (nI (R.length + 1))) (lv' := [(2, .int (nI (R.length + 1))), (5, .int (nI j2)), (4, .int (nI x)), (3, .int (nI i)), (0, .ref ((g 0))), (1, .int (nI u))]) hx hb dX6_reduce_140 hl (k := 3) rfl (nI_1 _) (by decide) rfl (fun ls hl => ?_)
                      refine lv_iinc (v := (nI (i + 1))) (lv' := [(3, .int (nI (i + 1))), (2, .int (nI (R.length + 1))), (5, .int (nI j2)), (4, .int (nI x)), (0, .ref ((g 0))), (1, .int (nI u))]) hx hb dX6_reduce_143 hl (k := 3) rfl (nI_1 _) (by decide) rfl (fun ls hl => ?_)
                      refine lv_goto (tgt := 4) hx hb dX6_reduce_146 (by decide) ?_
                      have hrs : redS R (L.getD i 0) = R.map (clr x) ++ [x] := by rw [redS, if_neg (hxe ▸ n_8), ← hxe]
                      have hrl : R.length + 1 = (redS R (L.getD i 0)).length := by rw [hrs, List.length_append, List.length_map, List.length_singleton]
                      rw [hrl] at hl
                      exact ihk (i + 1) (redS R (L.getD i 0)) (upd ro3 R.length (nI x)) _ _ ls (by omega) (drop_foldN (by omega) hres) (by rw [hrs]; exact red_put (by omega) hl5) (redS_iv hRv (hok.2.2 i (by omega))) hP hS (lv_sub hl [0, 1, 4, 5] rfl)
                    · have n_9 : ¬ (R.length ≤ j2) := fun z => c_9 ((nI_leI (a := R.length) (b := j2) (by omega) (by omega)).mpr z)
                      exfalso
                      omega
                  | succ k3 ihk3 =>
                    intro j2 ro3 H locs ls hj2 hl5 hP hS hl
                    refine lv_iload hx hb dX6_reduce_88 (lv_at hl 0 rfl) ?_
                    refine lv_iload_n hx hb dX6_reduce_90 rfl (lv_at hl 3 rfl) ?_
                    refine lv_icmp_ge (tgt := 132) hx hb dX6_reduce_91 (by decide) (fun c_11 => ?_) (fun c_11 => ?_)
                    · have n_11 : R.length ≤ j2 := (nI_leI (a := R.length) (b := j2) (by omega) (by omega)).mp c_11
                      exfalso
                      omega
                    · have n_11 : ¬ (R.length ≤ j2) := fun z => c_11 ((nI_leI (a := R.length) (b := j2) (by omega) (by omega)).mpr z)
                      refine lv_aload_n hx hb dX6_reduce_94 rfl (lv_at hl 4 rfl) ?_
                      refine w_get (C := RX6) (T := TX6) (N := 11) (ci := 6) (v := .ref ((g 5))) hx hb hts hin6 hown hK hP 0 (by decide) rfl rfl 7 (by decide) (hts (.fieldLink RX6 22 "MixedBlocksModel" "row" "[I") (List.mem_of_getElem? (i := 2) rfl)) (fun _ h9 => h9) rfl dX6_reduce_95 ?_
                      refine lv_iload hx hb dX6_reduce_98 (lv_at hl 0 rfl) ?_
                      refine lv_dup2_11 hx hb dX6_reduce_100 rfl rfl ?_
                      refine w_iald hx hb hK hP 5 (by decide) rfl (vp_in_nI (by omega) (by decide)) dX6_reduce_101 ?_
                      have hrb_12 := (hRv.1 (j2) (by omega)).1
                      rw [nI_clamp (by omega), hl5 _ (by omega), if_neg (by omega)]
                      refine lv_aload_n hx hb dX6_reduce_102 rfl (lv_at hl 4 rfl) ?_
                      refine w_get (C := RX6) (T := TX6) (N := 11) (ci := 6) (v := .ref ((g 5))) hx hb hts hin6 hown hK hP 0 (by decide) rfl rfl 7 (by decide) (hts (.fieldLink RX6 22 "MixedBlocksModel" "row" "[I") (List.mem_of_getElem? (i := 2) rfl)) (fun _ h9 => h9) rfl dX6_reduce_103 ?_
                      refine lv_iload hx hb dX6_reduce_106 (lv_at hl 0 rfl) ?_
                      refine w_iald hx hb hK hP 5 (by decide) rfl (vp_in_nI (by omega) (by decide)) dX6_reduce_108 ?_
                      have hrb_13 := (hRv.1 (j2) (by omega)).1
                      rw [nI_clamp (by omega), hl5 _ (by omega), if_neg (by omega)]
                      refine lv_iload hx hb dX6_reduce_109 (lv_at hl 1 rfl) ?_
                      refine va_calli (va_runS (As := [.int (nI x)]) (rest := [.int (nI (R.getD j2 0)), .int (nI (R.getD j2 0)), .int (nI j2), .ref ((g 5))]) ⟨hx, hb, hml, hown, hts⟩ (c_X6_lowest l x (by omega)) (va_cwS 1 hts gX6_reduce_X6_lowest rfl rfl rfl (by decide +kernel) ⟨Nat.le_of_ble_eq_true rfl, Nat.le_of_ble_eq_true rfl⟩) ⟨wU_blind, fun U hU hW => ⟨rfl, trivial⟩⟩ rfl rfl hl.1 rfl (lv_room (Nat.le_of_ble_eq_true rfl)) dX6_reduce_111 ⟨Nat.zero_le _, Nat.zero_le _⟩) hS (fun q _ h => h.elim) (fun q h => h.elim) (fun r_15 uu t H_15 locs_15 ht hvm hw hB hz1 hk1 hS => ?_)
                      have hP := hP.same hk1
                      have hll_14 := low_lt (y := x) (by omega)
                      obtain rfl : r_15 = (nI (low x)) := hw
                      refine lv_iand hx hb dX6_reduce_114 ?_
                      rw [show (nI (R.getD j2 0)) &&& (nI (low x)) = nI ((R.getD j2 0) &&& (low x)) from nI_and (R.getD j2 0) (low x)]
                      refine lv_if_eq (tgt := 123) hx hb dX6_reduce_115 (by decide) (fun c_16 => ?_) (fun c_16 => ?_)
                      · refine lv_iconst (v := 0) hx hb dX6_reduce_123 (by decide) ?_
                        refine lv_ixor hx hb dX6_reduce_124 ?_
                        rw [show (nI (R.getD j2 0)) ^^^ 0 = nI ((R.getD j2 0) ^^^ 0) from nI_xor (R.getD j2 0) 0]
                        refine w_iast hx hb hK hP hI hA hS 5 (by decide) rfl (vp_in_nI (by omega) (by decide)) dX6_reduce_125 (moF E g th (mdE nb va se (va_up rv u (rvE li K go tn lo L.length w))) aa sv sm tx ln (upd ro3 j2 (nI ((R.getD j2 0) ^^^ 0))) ai wr dg) (congrArg (fun z : Nat => (Sum.inl (E.2.1, 12, Sum.inl (upd ro3 z (nI ((R.getD j2 0) ^^^ 0)))) : va_E)) (nI_clamp (by omega)).symm) mo_ne5 (fun H_17 locs_17 hP hS => ?_)
                        refine lv_iinc (v := (nI (j2 + 1))) (lv' := [(5, .int (nI (j2 + 1))), (4, .int (nI x)), (3, .int (nI i)), (2, .int (nI R.length)), (0, .ref ((g 0))), (1, .int (nI u))]) hx hb dX6_reduce_126 hl (k := 0) rfl (nI_1 _) (by decide) rfl (fun ls hl => ?_)
                        refine lv_goto (tgt := 88) hx hb dX6_reduce_129 (by decide) ?_
                        exact ihk3 (j2 + 1) (upd ro3 j2 (nI ((R.getD j2 0) ^^^ 0))) _ _ ls (by omega) (clr_st hl5 (by rw [clr, if_pos ((nI_e0 (Nat.lt_of_le_of_lt Nat.and_le_left (by omega))).mp c_16), Nat.xor_zero])) hP hS (lv_sub hl [0, 1, 2, 3, 4, 5] rfl)
                      · refine lv_iload hx hb dX6_reduce_118 (lv_at hl 1 rfl) ?_
                        refine lv_goto (tgt := 124) hx hb dX6_reduce_120 (by decide) ?_
                        refine lv_ixor hx hb dX6_reduce_124 ?_
                        rw [show (nI (R.getD j2 0)) ^^^ (nI x) = nI ((R.getD j2 0) ^^^ x) from nI_xor (R.getD j2 0) x]
                        refine w_iast hx hb hK hP hI hA hS 5 (by decide) rfl (vp_in_nI (by omega) (by decide)) dX6_reduce_125 (moF E g th (mdE nb va se (va_up rv u (rvE li K go tn lo L.length w))) aa sv sm tx ln (upd ro3 j2 (nI ((R.getD j2 0) ^^^ x))) ai wr dg) (congrArg (fun z : Nat => (Sum.inl (E.2.1, 12, Sum.inl (upd ro3 z (nI ((R.getD j2 0) ^^^ x)))) : va_E)) (nI_clamp (by omega)).symm) mo_ne5 (fun H_18 locs_18 hP hS => ?_)
                        refine lv_iinc (v := (nI (j2 + 1))) (lv' := [(5, .int (nI (j2 + 1))), (4, .int (nI x)), (3, .int (nI i)), (2, .int (nI R.length)), (0, .ref ((g 0))), (1, .int (nI u))]) hx hb dX6_reduce_126 hl (k := 0) rfl (nI_1 _) (by decide) rfl (fun ls hl => ?_)
                        refine lv_goto (tgt := 88) hx hb dX6_reduce_129 (by decide) ?_
                        exact ihk3 (j2 + 1) (upd ro3 j2 (nI ((R.getD j2 0) ^^^ x))) _ _ ls (by omega) (clr_st hl5 (by rw [clr, if_neg (fun z => c_16 ((nI_e0 (Nat.lt_of_le_of_lt Nat.and_le_left (by omega))).mpr z))])) hP hS (lv_sub hl [0, 1, 2, 3, 4, 5] rfl)
                exact L88 R.length 0 ro2 _ _ ls (Nat.zero_add _) (fun j hj => by rw [if_neg (Nat.not_lt_zero j)]; exact hRl j hj) hP hS (lv_sub hl [0, 1, 2, 3, 4, 5] rfl)
            · have n_7 : ¬ (R.length ≤ j) := fun z => c_7 ((nI_leI (a := R.length) (b := j) (by omega) (by omega)).mpr z)
              exfalso
              omega
          | succ k2 ihk2 =>
            intro j x H locs ls hj hx9 hxr hP hS hl
            refine lv_iload hx hb dX6_reduce_36 (lv_at hl 0 rfl) ?_
            refine lv_iload_n hx hb dX6_reduce_38 rfl (lv_at hl 3 rfl) ?_
            refine lv_icmp_ge (tgt := 80) hx hb dX6_reduce_39 (by decide) (fun c_19 => ?_) (fun c_19 => ?_)
            · have n_19 : R.length ≤ j := (nI_leI (a := R.length) (b := j) (by omega) (by omega)).mp c_19
              exfalso
              omega
            · have n_19 : ¬ (R.length ≤ j) := fun z => c_19 ((nI_leI (a := R.length) (b := j) (by omega) (by omega)).mpr z)
              refine lv_iload hx hb dX6_reduce_42 (lv_at hl 1 rfl) ?_
              refine lv_iload hx hb dX6_reduce_44 (lv_at hl 1 rfl) ?_
              refine lv_aload_n hx hb dX6_reduce_46 rfl (lv_at hl 4 rfl) ?_
              refine w_get (C := RX6) (T := TX6) (N := 11) (ci := 6) (v := .ref ((g 5))) hx hb hts hin6 hown hK hP 0 (by decide) rfl rfl 7 (by decide) (hts (.fieldLink RX6 22 "MixedBlocksModel" "row" "[I") (List.mem_of_getElem? (i := 2) rfl)) (fun _ h9 => h9) rfl dX6_reduce_47 ?_
              refine lv_iload hx hb dX6_reduce_50 (lv_at hl 0 rfl) ?_
              refine w_iald hx hb hK hP 5 (by decide) rfl (vp_in_nI (by omega) (by decide)) dX6_reduce_52 ?_
              have hrb_20 := (hRv.1 (j) (by omega)).1
              rw [nI_clamp (by omega), hRl _ (by omega)]
              refine va_calli (va_runS (As := [.int (nI (R.getD j 0))]) (rest := [.int (nI x), .int (nI x)]) ⟨hx, hb, hml, hown, hts⟩ (c_X6_lowest l (R.getD j 0) (by omega)) (va_cwS 1 hts gX6_reduce_X6_lowest rfl rfl rfl (by decide +kernel) ⟨Nat.le_of_ble_eq_true rfl, Nat.le_of_ble_eq_true rfl⟩) ⟨wU_blind, fun U hU hW => ⟨rfl, trivial⟩⟩ rfl rfl hl.1 rfl (lv_room (Nat.le_of_ble_eq_true rfl)) dX6_reduce_53 ⟨Nat.zero_le _, Nat.zero_le _⟩) hS (fun q _ h => h.elim) (fun q h => h.elim) (fun r_22 uu t H_22 locs_22 ht hvm hw hB hz1 hk1 hS => ?_)
              have hP := hP.same hk1
              have hll_21 := low_lt (y := (R.getD j 0)) (by omega)
              obtain rfl : r_22 = (nI (low (R.getD j 0))) := hw
              refine lv_iand hx hb dX6_reduce_56 ?_
              rw [show (nI x) &&& (nI (low (R.getD j 0))) = nI (x &&& (low (R.getD j 0))) from nI_and x (low (R.getD j 0))]
              refine lv_if_eq (tgt := 70) hx hb dX6_reduce_57 (by decide) (fun c_23 => ?_) (fun c_23 => ?_)
              · refine lv_iconst (v := 0) hx hb dX6_reduce_70 (by decide) ?_
                refine lv_ixor hx hb dX6_reduce_71 ?_
                rw [show (nI x) ^^^ 0 = nI (x ^^^ 0) from nI_xor x 0]
                refine lv_istore (lv' := [(4, .int (nI (x ^^^ 0))), (5, .int (nI j)), (3, .int (nI i)), (2, .int (nI R.length)), (0, .ref ((g 0))), (1, .int (nI u))]) hx hb dX6_reduce_72 hl (by decide) rfl (fun ls hl => ?_)
                refine lv_iinc (v := (nI (j + 1))) (lv' := [(5, .int (nI (j + 1))), (4, .int (nI (x ^^^ 0))), (3, .int (nI i)), (2, .int (nI R.length)), (0, .ref ((g 0))), (1, .int (nI u))]) hx hb dX6_reduce_74 hl (k := 1) rfl (nI_1 _) (by decide) rfl (fun ls hl => ?_)
                refine lv_goto (tgt := 36) hx hb dX6_reduce_77 (by decide) ?_
                have hxs : xS x (R.getD j 0) = (x ^^^ 0) := by rw [xS, if_pos ((nI_e0 (Nat.lt_of_le_of_lt Nat.and_le_left (Nat.lt_trans hx9 (by decide)))).mp c_23), Nat.xor_zero]
                exact ihk2 (j + 1) (x ^^^ 0) _ _ ls (by omega) (by rw [← hxs]; exact xS_lt hx9 (hRv.1 j (by omega)).1) (by rw [← hxs]; exact drop_foldN (by omega) hxr) hP hS (lv_sub hl [0, 1, 2, 3, 4, 5] rfl)
              · refine lv_aload_n hx hb dX6_reduce_60 rfl (lv_at hl 4 rfl) ?_
                refine w_get (C := RX6) (T := TX6) (N := 11) (ci := 6) (v := .ref ((g 5))) hx hb hts hin6 hown hK hP 0 (by decide) rfl rfl 7 (by decide) (hts (.fieldLink RX6 22 "MixedBlocksModel" "row" "[I") (List.mem_of_getElem? (i := 2) rfl)) (fun _ h9 => h9) rfl dX6_reduce_61 ?_
                refine lv_iload hx hb dX6_reduce_64 (lv_at hl 0 rfl) ?_
                refine w_iald hx hb hK hP 5 (by decide) rfl (vp_in_nI (by omega) (by decide)) dX6_reduce_66 ?_
                have hrb_24 := (hRv.1 (j) (by omega)).1
                rw [nI_clamp (by omega), hRl _ (by omega)]
                refine lv_goto (tgt := 71) hx hb dX6_reduce_67 (by decide) ?_
                refine lv_ixor hx hb dX6_reduce_71 ?_
                rw [show (nI x) ^^^ (nI (R.getD j 0)) = nI (x ^^^ (R.getD j 0)) from nI_xor x (R.getD j 0)]
                refine lv_istore (lv' := [(4, .int (nI (x ^^^ (R.getD j 0)))), (5, .int (nI j)), (3, .int (nI i)), (2, .int (nI R.length)), (0, .ref ((g 0))), (1, .int (nI u))]) hx hb dX6_reduce_72 hl (by decide) rfl (fun ls hl => ?_)
                refine lv_iinc (v := (nI (j + 1))) (lv' := [(5, .int (nI (j + 1))), (4, .int (nI (x ^^^ (R.getD j 0)))), (3, .int (nI i)), (2, .int (nI R.length)), (0, .ref ((g 0))), (1, .int (nI u))]) hx hb dX6_reduce_74 hl (k := 1) rfl (nI_1 _) (by decide) rfl (fun ls hl => ?_)
                refine lv_goto (tgt := 36) hx hb dX6_reduce_77 (by decide) ?_
                have hxs : xS x (R.getD j 0) = (x ^^^ (R.getD j 0)) := by rw [xS, if_neg (fun z => c_23 ((nI_e0 (Nat.lt_of_le_of_lt Nat.and_le_left (Nat.lt_trans hx9 (by decide)))).mpr z))]
                exact ihk2 (j + 1) (x ^^^ (R.getD j 0)) _ _ ls (by omega) (by rw [← hxs]; exact xS_lt hx9 (hRv.1 j (by omega)).1) (by rw [← hxs]; exact drop_foldN (by omega) hxr) hP hS (lv_sub hl [0, 1, 2, 3, 4, 5] rfl)
        exact L36 R.length 0 (L.getD i 0) _ _ ls (Nat.zero_add _) (by omega) rfl hP hS (lv_sub hl [0, 1, 2, 3, 4, 5] rfl)
  exact L4 L.length 0 [] ro _ _ ls (Nat.zero_add _) rfl (fun j hj => absurd hj (Nat.not_lt_zero j)) rIv_0 hP hS (lv_sub hl [0, 1, 2, 3] rfl)
set_option maxHeartbeats 4000000 in
set_option maxRecDepth 100000 in
theorem c_X6_rank (l : Launch) (E : wE) (g : Nat → Nat) (th : Int32) (aa sv : Nat → Int32) (sm : Nat) (tx : Nat → Int32) (ln : Nat) (ro : Nat → Int32) (ai : Nat) (wr : Bool) (dg : Int64) (nb : Nat) (va : Nat → Int32) (se : Int32) (rv : Nat → Nat → Int32) (u : Nat) (li : Bool) (K : Nat) (go tn lo : Int32) (L : List Nat) (hu3 : u < 3)  : Met l yX6_rank wsX6_rank ({ frames := 2, cells := 0, slots := 0, locals := 46 }) (va_Pc [.ref ((g 0)), .int (nI u)] (wS E 6 g (fun H => moR E g th aa sv sm tx ln ro ai wr dg nb va se rv u li K go tn lo L (H)))) (va_Qi (fun (r : Int32) (_ : Unit) => r = nI (pc K + (redW L).length)) (fun _ t => ∃ ro2 : Nat → Int32, moR E g th aa sv sm tx ln ro2 ai wr dg nb va se rv u li K go tn lo L (t.heap)) (wF 6 g)) 0 0 (wF 6 g) := by
  refine Met.ofW (cc := cX6_rank) (maxL := 2) (ret := (some .int)) (by decide) rfl ?_
  intro p e s m args below meth c s₁ B hml hv
  obtain ⟨rfl, ⟨w, hP, hw, hok⟩, hK, hI⟩ := hv
  have hx := B.exec
  have hb := B.bytes
  have hr := B.returns
  have hts := atoms_spec (ws := wsX6_rank) B.pre
  have hown : s.vm.findClass RX6 = some m.cls := findClass_of_methodNamed B.named
  have hlocks := B.notSynchronized
  have hS : va_S (wF 6 g) s.heap s.heap [] := va_S.rf
  have hin6 : ∀ w ∈ wsX60, w ∈ wsX6_rank := by decide +kernel
  have hA : ∀ k, k < 6 → (wF 6 g) (g k) := wF_in
  have hl := lv_entry ([.ref ((g 0)), .int (nI u)]) (n := 2) (Nat.le_of_ble_eq_true rfl)
  rw [lg_entry_eq]
  generalize (lg_sl ([.ref ((g 0)), .int (nI u)]) ++ List.replicate (2 - (lg_sl ([.ref ((g 0)), .int (nI u)])).length) Slot.unset).toArray = ls at hl ⊢
  have hl : lv_has ls 2 [(0, .ref ((g 0))), (1, .int (nI u))] := hl
  have hP : wP E 6 g (moF E g th (mdE nb va se (va_up rv u (rvE li K go tn lo L.length w))) aa sv sm tx ln ro ai wr dg) s.heap := hP
  obtain ⟨hWl, hK12, hW12⟩ := id hok
  refine lv_aload_n hx hb dX6_rank_0 rfl (lv_at hl 0 rfl) ?_
  refine w_get (C := RX6) (T := TX6) (N := 11) (ci := 6) (v := .ref ((g 1))) hx hb hts hin6 hown hK hP 0 (by decide) rfl rfl 1 (by decide) (hts (.fieldLink RX6 7 "MixedBlocksModel" "s" "[I") (List.mem_of_getElem? (i := 1) rfl)) (fun _ h9 => h9) rfl dX6_rank_1 ?_
  refine lv_iload_n hx hb dX6_rank_4 rfl (lv_at hl 1 rfl) ?_
  refine lv_iconst (v := 1) hx hb dX6_rank_5 (by decide) ?_
  refine va_calli (va_runS (As := [.int (nI u), .int 1]) (rest := [.ref ((g 1))]) ⟨hx, hb, hml, hown, hts⟩ (c_X6_of l u 1) (va_cwS 2 hts gX6_rank_X6_of rfl rfl rfl (by decide +kernel) ⟨Nat.le_of_ble_eq_true rfl, Nat.le_of_ble_eq_true rfl⟩) ⟨wU_blind, fun U hU hW => ⟨rfl, trivial⟩⟩ rfl rfl hl.1 rfl (lv_room (Nat.le_of_ble_eq_true rfl)) dX6_rank_6 ⟨Nat.zero_le _, Nat.zero_le _⟩) hS (fun q _ h => h.elim) (fun q h => h.elim) (fun r_1 uu t H_1 locs_1 ht hvm hw hB hz1 hk1 hS => ?_)
  have hP := hP.same hk1
  obtain rfl : r_1 = (nI (14 + 30 * u + 1)) := hw
  refine w_iald hx hb hK hP 1 (by decide) rfl (vp_in_nI (by omega) (by decide)) dX6_rank_9 ?_
  rw [nI_clamp (by omega), md_g1]
  refine va_calli (va_runS (As := [.int (nI K)]) (rest := []) ⟨hx, hb, hml, hown, hts⟩ (c_X6_bits l K (by omega)) (va_cwS 1 hts gX6_rank_X6_bits rfl rfl rfl (by decide +kernel) ⟨Nat.le_of_ble_eq_true rfl, Nat.le_of_ble_eq_true rfl⟩) ⟨wU_blind, fun U hU hW => ⟨rfl, trivial⟩⟩ rfl rfl hl.1 rfl (lv_room (Nat.le_of_ble_eq_true rfl)) dX6_rank_10 ⟨Nat.zero_le _, Nat.zero_le _⟩) hS (fun q _ h => h.elim) (fun q h => h.elim) (fun r_3 uu t H_3 locs_3 ht hvm hw hB hz1 hk1 hS => ?_)
  have hP := hP.same hk1
  have hpl_2 := pc_le K
  obtain rfl : r_3 = (nI (pc K)) := hw
  refine lv_aload_n hx hb dX6_rank_13 rfl (lv_at hl 0 rfl) ?_
  refine lv_iload_n hx hb dX6_rank_14 rfl (lv_at hl 1 rfl) ?_
  refine va_calli (va_runV (As := [.int (nI u)]) (rest := [.int ((nI (pc K)))]) ⟨hx, hb, hml, hown, hts⟩ (c_X6_reduce l E g th aa sv sm tx ln ro ai wr dg nb va se rv u li K go tn lo L hu3 ) (cwV 1 hts gX6_rank_X6_reduce rfl rfl rfl (by decide +kernel) ⟨Nat.le_of_ble_eq_true rfl, Nat.le_of_ble_eq_true rfl⟩) ⟨wS.blind, (w_recv hK hP 0 (by decide) rfl (ci := 6) rfl), fun U hU hW => wS.go ⟨_, hP, hw, hok⟩ hK hI hU hW⟩ rfl rfl hl.1 rfl (lv_room (Nat.le_of_ble_eq_true rfl)) dX6_rank_15 ⟨Nat.zero_le _, Nat.zero_le _⟩) hS (fun q _ h => h) (fun q h => h) (fun r_4 uu t H_4 locs_4 ht hvm hw hB hz1 hk1 hS => ?_)
  rw [ht] at hB
  obtain ⟨ro_4, ⟨w_4, hP, hw_4, hok_4⟩, hro_4⟩ := hB
  have hP : wP E 6 g (moF E g th (mdE nb va se (va_up rv u (rvE li K go tn lo L.length w_4))) aa sv sm tx ln ro_4 ai wr dg) H_4 := hP
  have hkk_4 := hok_4.2.1
  have hRv_4 := redW_iv hok_4.2.2
  have hRlen_4 := rIv_len hRv_4
  obtain rfl : r_4 = (nI ((redW L).length)) := hw
  refine lv_iadd hx hb dX6_rank_18 ?_
  rw [show (nI (pc K)) + (nI ((redW L).length)) = nI ((pc K) + ((redW L).length)) from nI_add (pc K) ((redW L).length)]
  exact W.iret (v := (nI ((pc K) + ((redW L).length)))) hx hb hr (fun t ht hW => ⟨⟨_, (), rfl, rfl, (by show ∃ ro2 : Nat → Int32, moR E g th aa sv sm tx ln ro2 ai wr dg nb va se rv u li K go tn lo L (t.heap); rw [ht]; exact ⟨_, _, hP, hw_4, hok_4⟩)⟩, hS.F ht⟩) hS.2.2 dX6_rank_19
set_option maxHeartbeats 4000000 in
set_option maxRecDepth 100000 in
theorem c_X6_alone (l : Launch) (E : wE) (g : Nat → Nat) (th : Int32) (aa sv : Nat → Int32) (sm : Nat) (tx : Nat → Int32) (ln : Nat) (ro : Nat → Int32) (ai : Nat) (wr : Bool) (dg : Int64) (nb : Nat) (va : Nat → Int32) (se : Int32) (rv : Nat → Nat → Int32) (u : Nat) (li : Bool) (K : Nat) (go tn lo : Int32) (L : List Nat) (hu3 : u < 3)  : Met l yX6_alone wsX6_alone ({ frames := 2, cells := 0, slots := 0, locals := 46 }) (va_Pc [.ref ((g 0)), .int (nI u)] (wS E 6 g (fun H => moR E g th aa sv sm tx ln ro ai wr dg nb va se rv u li K go tn lo L (H)))) (va_Qi (fun (r : Int32) (_ : Unit) => r = nI (alnM (redW L))) (fun _ t => ∃ ro2 : Nat → Int32, moR E g th aa sv sm tx ln ro2 ai wr dg nb va se rv u li K go tn lo L (t.heap)) (wF 6 g)) 0 0 (wF 6 g) := by
  refine Met.ofW (cc := cX6_alone) (maxL := 5) (ret := (some .int)) (by decide) rfl ?_
  intro p e s m args below meth c s₁ B hml hv
  obtain ⟨rfl, ⟨w, hP, hw, hok⟩, hK, hI⟩ := hv
  have hx := B.exec
  have hb := B.bytes
  have hr := B.returns
  have hts := atoms_spec (ws := wsX6_alone) B.pre
  have hown : s.vm.findClass RX6 = some m.cls := findClass_of_methodNamed B.named
  have hlocks := B.notSynchronized
  have hS : va_S (wF 6 g) s.heap s.heap [] := va_S.rf
  have hin6 : ∀ w ∈ wsX60, w ∈ wsX6_alone := by decide +kernel
  have hA : ∀ k, k < 6 → (wF 6 g) (g k) := wF_in
  have hl := lv_entry ([.ref ((g 0)), .int (nI u)]) (n := 5) (Nat.le_of_ble_eq_true rfl)
  rw [lg_entry_eq]
  generalize (lg_sl ([.ref ((g 0)), .int (nI u)]) ++ List.replicate (5 - (lg_sl ([.ref ((g 0)), .int (nI u)])).length) Slot.unset).toArray = ls at hl ⊢
  have hl : lv_has ls 5 [(0, .ref ((g 0))), (1, .int (nI u))] := hl
  have hP : wP E 6 g (moF E g th (mdE nb va se (va_up rv u (rvE li K go tn lo L.length w))) aa sv sm tx ln ro ai wr dg) s.heap := hP
  obtain ⟨hWl, hK12, hW12⟩ := id hok
  refine lv_aload_n hx hb dX6_alone_0 rfl (lv_at hl 0 rfl) ?_
  refine lv_iload_n hx hb dX6_alone_1 rfl (lv_at hl 1 rfl) ?_
  refine va_calli (va_runV (As := [.int (nI u)]) (rest := []) ⟨hx, hb, hml, hown, hts⟩ (c_X6_reduce l E g th aa sv sm tx ln ro ai wr dg nb va se rv u li K go tn lo L hu3 ) (cwV 1 hts gX6_alone_X6_reduce rfl rfl rfl (by decide +kernel) ⟨Nat.le_of_ble_eq_true rfl, Nat.le_of_ble_eq_true rfl⟩) ⟨wS.blind, (w_recv hK hP 0 (by decide) rfl (ci := 6) rfl), fun U hU hW => wS.go ⟨_, hP, hw, hok⟩ hK hI hU hW⟩ rfl rfl hl.1 rfl (lv_room (Nat.le_of_ble_eq_true rfl)) dX6_alone_2 ⟨Nat.zero_le _, Nat.zero_le _⟩) hS (fun q _ h => h) (fun q h => h) (fun r_1 uu t H_1 locs_1 ht hvm hw hB hz1 hk1 hS => ?_)
  rw [ht] at hB
  obtain ⟨ro_1, ⟨w_1, hP, hw_1, hok_1⟩, hro_1⟩ := hB
  have hP : wP E 6 g (moF E g th (mdE nb va se (va_up rv u (rvE li K go tn lo L.length w_1))) aa sv sm tx ln ro_1 ai wr dg) H_1 := hP
  have hkk_1 := hok_1.2.1
  have hRv_1 := redW_iv hok_1.2.2
  have hRlen_1 := rIv_len hRv_1
  obtain rfl : r_1 = (nI ((redW L).length)) := hw
  refine lv_istore_n (lv' := [(2, .int ((nI ((redW L).length)))), (0, .ref ((g 0))), (1, .int (nI u))]) hx hb dX6_alone_5 rfl hl (by decide) rfl (fun ls hl => ?_)
  refine lv_iconst (v := 0) hx hb dX6_alone_6 (by decide) ?_
  refine lv_istore_n (lv' := [(3, .int 0), (2, .int ((nI ((redW L).length)))), (0, .ref ((g 0))), (1, .int (nI u))]) hx hb dX6_alone_7 rfl hl (by decide) rfl (fun ls hl => ?_)
  refine lv_iconst (v := 0) hx hb dX6_alone_8 (by decide) ?_
  refine lv_istore (lv' := [(4, .int 0), (3, .int 0), (2, .int ((nI ((redW L).length)))), (0, .ref ((g 0))), (1, .int (nI u))]) hx hb dX6_alone_9 hl (by decide) rfl (fun ls hl => ?_)
  have L11 : ∀ (k : Nat) (i a : Nat) (H : Heap) (locs : List Loc) (ls : Array Slot), i + k = (redW L).length → a < 4096 → ((redW L).drop i).foldl alS a = alnM (redW L) → wP E 6 g (moF E g th (mdE nb va se (va_up rv u (rvE li K go tn lo L.length w_1))) aa sv sm tx ln ro_1 ai wr dg) H → va_S (wF 6 g) s.heap H locs → lv_has ls 5 [(4, .int (nI i)), (3, .int (nI a)), (2, .int (nI ((redW L).length))), (0, .ref ((g 0))), (1, .int (nI u))] → W p l e (headSpec wsX6_alone ({ frames := 2, cells := 0, slots := 0, locals := 46 })).room s m ([.ref ((g 0)), .int (nI u)] : List Value).toArray below meth c H locs 0 0 (MQ below (va_Qi (fun (r : Int32) (_ : Unit) => r = nI (alnM (redW L))) (fun _ t => ∃ ro2 : Nat → Int32, moR E g th aa sv sm tx ln ro2 ai wr dg nb va se rv u li K go tn lo L (t.heap)) (wF 6 g)) ([.ref ((g 0)), .int (nI u)] : List Value).toArray s 0 0 (wF 6 g)) (F0 m 11 ls []) := by
    intro k
    induction k with
    | zero =>
      intro i a H locs ls hi ha hres hP hS hl
      refine lv_iload hx hb dX6_alone_11 (lv_at hl 0 rfl) ?_
      refine lv_iload_n hx hb dX6_alone_13 rfl (lv_at hl 2 rfl) ?_
      refine lv_icmp_ge (tgt := 51) hx hb dX6_alone_14 (by decide) (fun c_2 => ?_) (fun c_2 => ?_)
      · have n_2 : ((redW L).length) ≤ i := (nI_leI (a := ((redW L).length)) (b := i) (by omega) (by omega)).mp c_2
        refine lv_iload_n hx hb dX6_alone_51 rfl (lv_at hl 1 rfl) ?_
        have hre := drop_endN (by omega) hres
        exact W.iret (v := (nI a)) hx hb hr (fun t ht hW => ⟨⟨_, (), rfl, (by show _ = _; rw [← hre]), (by show ∃ ro2 : Nat → Int32, moR E g th aa sv sm tx ln ro2 ai wr dg nb va se rv u li K go tn lo L (t.heap); rw [ht]; exact ⟨_, _, hP, hw_1, hok_1⟩)⟩, hS.F ht⟩) hS.2.2 dX6_alone_52
      · have n_2 : ¬ (((redW L).length) ≤ i) := fun z => c_2 ((nI_leI (a := ((redW L).length)) (b := i) (by omega) (by omega)).mpr z)
        exfalso
        omega
    | succ k ihk =>
      intro i a H locs ls hi ha hres hP hS hl
      refine lv_iload hx hb dX6_alone_11 (lv_at hl 0 rfl) ?_
      refine lv_iload_n hx hb dX6_alone_13 rfl (lv_at hl 2 rfl) ?_
      refine lv_icmp_ge (tgt := 51) hx hb dX6_alone_14 (by decide) (fun c_3 => ?_) (fun c_3 => ?_)
      · have n_3 : ((redW L).length) ≤ i := (nI_leI (a := ((redW L).length)) (b := i) (by omega) (by omega)).mp c_3
        exfalso
        omega
      · have n_3 : ¬ (((redW L).length) ≤ i) := fun z => c_3 ((nI_leI (a := ((redW L).length)) (b := i) (by omega) (by omega)).mpr z)
        refine lv_iload_n hx hb dX6_alone_17 rfl (lv_at hl 1 rfl) ?_
        refine lv_aload_n hx hb dX6_alone_18 rfl (lv_at hl 3 rfl) ?_
        refine w_get (C := RX6) (T := TX6) (N := 11) (ci := 6) (v := .ref ((g 5))) hx hb hts hin6 hown hK hP 0 (by decide) rfl rfl 7 (by decide) (hts (.fieldLink RX6 22 "MixedBlocksModel" "row" "[I") (List.mem_of_getElem? (i := 1) rfl)) (fun _ h9 => h9) rfl dX6_alone_19 ?_
        refine lv_iload hx hb dX6_alone_22 (lv_at hl 0 rfl) ?_
        refine w_iald hx hb hK hP 5 (by decide) rfl (vp_in_nI (by omega) (by decide)) dX6_alone_24 ?_
        have hrb_4 := (hRv_1.1 (i) (by omega)).1
        rw [nI_clamp (by omega), hro_1 _ (by omega)]
        refine va_calli (va_runS (As := [.int (nI ((redW L).getD i 0))]) (rest := [.int (nI a)]) ⟨hx, hb, hml, hown, hts⟩ (c_X6_bits l ((redW L).getD i 0) (by omega)) (va_cwS 1 hts gX6_alone_X6_bits rfl rfl rfl (by decide +kernel) ⟨Nat.le_of_ble_eq_true rfl, Nat.le_of_ble_eq_true rfl⟩) ⟨wU_blind, fun U hU hW => ⟨rfl, trivial⟩⟩ rfl rfl hl.1 rfl (lv_room (Nat.le_of_ble_eq_true rfl)) dX6_alone_25 ⟨Nat.zero_le _, Nat.zero_le _⟩) hS (fun q _ h => h.elim) (fun q h => h.elim) (fun r_6 uu t H_6 locs_6 ht hvm hw hB hz1 hk1 hS => ?_)
        have hP := hP.same hk1
        have hpl_5 := pc_le ((redW L).getD i 0)
        obtain rfl : r_6 = (nI (pc ((redW L).getD i 0))) := hw
        refine lv_iconst (v := 1) hx hb dX6_alone_28 (by decide) ?_
        refine lv_icmp_ne (tgt := 42) hx hb dX6_alone_29 (by decide) (fun c_7 => ?_) (fun c_7 => ?_)
        · have n_7 : ¬ ((pc ((redW L).getD i 0)) = 1) := fun z => c_7 ((nI_eq (a := (pc ((redW L).getD i 0))) (b := 1) (by omega) (by omega)).mpr z)
          refine lv_iconst (v := 0) hx hb dX6_alone_42 (by decide) ?_
          refine lv_ior hx hb dX6_alone_43 ?_
          rw [show (nI a) ||| 0 = nI (a ||| 0) from nI_or a 0]
          refine lv_istore_n (lv' := [(3, .int (nI (a ||| 0))), (4, .int (nI i)), (2, .int (nI ((redW L).length))), (0, .ref ((g 0))), (1, .int (nI u))]) hx hb dX6_alone_44 rfl hl (by decide) rfl (fun ls hl => ?_)
          refine lv_iinc (v := (nI (i + 1))) (lv' := [(4, .int (nI (i + 1))), (3, .int (nI (a ||| 0))), (2, .int (nI ((redW L).length))), (0, .ref ((g 0))), (1, .int (nI u))]) hx hb dX6_alone_45 hl (k := 1) rfl (nI_1 _) (by decide) rfl (fun ls hl => ?_)
          refine lv_goto (tgt := 11) hx hb dX6_alone_48 (by decide) ?_
          have has : alS a ((redW L).getD i 0) = (a ||| 0) := by rw [alS, if_neg n_7, Nat.or_zero]
          exact ihk (i + 1) (a ||| 0) _ _ ls (by omega) (by rw [← has]; exact alS_lt ha (by omega)) (by rw [← has]; exact drop_foldN (by omega) hres) hP hS (lv_sub hl [0, 1, 2, 3, 4] rfl)
        · have n_7 : (pc ((redW L).getD i 0)) = 1 := (nI_eq (a := (pc ((redW L).getD i 0))) (b := 1) (by omega) (by omega)).mp c_7
          refine lv_aload_n hx hb dX6_alone_32 rfl (lv_at hl 3 rfl) ?_
          refine w_get (C := RX6) (T := TX6) (N := 11) (ci := 6) (v := .ref ((g 5))) hx hb hts hin6 hown hK hP 0 (by decide) rfl rfl 7 (by decide) (hts (.fieldLink RX6 22 "MixedBlocksModel" "row" "[I") (List.mem_of_getElem? (i := 1) rfl)) (fun _ h9 => h9) rfl dX6_alone_33 ?_
          refine lv_iload hx hb dX6_alone_36 (lv_at hl 0 rfl) ?_
          refine w_iald hx hb hK hP 5 (by decide) rfl (vp_in_nI (by omega) (by decide)) dX6_alone_38 ?_
          have hrb_8 := (hRv_1.1 (i) (by omega)).1
          rw [nI_clamp (by omega), hro_1 _ (by omega)]
          refine lv_goto (tgt := 43) hx hb dX6_alone_39 (by decide) ?_
          refine lv_ior hx hb dX6_alone_43 ?_
          rw [show (nI a) ||| (nI ((redW L).getD i 0)) = nI (a ||| ((redW L).getD i 0)) from nI_or a ((redW L).getD i 0)]
          refine lv_istore_n (lv' := [(3, .int (nI (a ||| ((redW L).getD i 0)))), (4, .int (nI i)), (2, .int (nI ((redW L).length))), (0, .ref ((g 0))), (1, .int (nI u))]) hx hb dX6_alone_44 rfl hl (by decide) rfl (fun ls hl => ?_)
          refine lv_iinc (v := (nI (i + 1))) (lv' := [(4, .int (nI (i + 1))), (3, .int (nI (a ||| ((redW L).getD i 0)))), (2, .int (nI ((redW L).length))), (0, .ref ((g 0))), (1, .int (nI u))]) hx hb dX6_alone_45 hl (k := 1) rfl (nI_1 _) (by decide) rfl (fun ls hl => ?_)
          refine lv_goto (tgt := 11) hx hb dX6_alone_48 (by decide) ?_
          have has : alS a ((redW L).getD i 0) = (a ||| ((redW L).getD i 0)) := by rw [alS, if_pos n_7]
          exact ihk (i + 1) (a ||| ((redW L).getD i 0)) _ _ ls (by omega) (by rw [← has]; exact alS_lt ha (by omega)) (by rw [← has]; exact drop_foldN (by omega) hres) hP hS (lv_sub hl [0, 1, 2, 3, 4] rfl)
  exact L11 (redW L).length 0 0 _ _ ls (Nat.zero_add _) (by decide) rfl hP hS (lv_sub hl [0, 1, 2, 3, 4] rfl)
set_option maxHeartbeats 4000000 in
set_option maxRecDepth 100000 in
theorem c_X6_eliminates (l : Launch) (E : wE) (g : Nat → Nat) (th : Int32) (aa sv : Nat → Int32) (sm : Nat) (tx : Nat → Int32) (ln : Nat) (ro : Nat → Int32) (ai : Nat) (wr : Bool) (dg : Int64) (nb : Nat) (va : Nat → Int32) (se : Int32) (rv : Nat → Nat → Int32) (u : Nat) (li : Bool) (K : Nat) (go tn lo : Int32) (L : List Nat) (hu3 : u < 3) (hnb : nb ≤ 12) : Met l yX6_eliminates wsX6_eliminates ({ frames := 3, cells := 0, slots := 0, locals := 70 }) (va_Pc [.ref ((g 0)), .int (nI u)] (wS E 6 g (fun H => moR E g th aa sv sm tx ln ro ai wr dg nb va se rv u li K go tn lo L (H)))) (va_Qi (fun (r : Int32) (_ : Unit) => r = nI (pc (elM nb (alnM (redW L)) (K, tn, L)).1) - nI (pc K)) (fun _ t => ∃ ro2 : Nat → Int32, moR E g th aa sv sm tx ln ro2 ai wr dg nb va se rv u li ((elM nb (alnM (redW L)) (K, tn, L)).1) go ((elM nb (alnM (redW L)) (K, tn, L)).2.1) lo ((elM nb (alnM (redW L)) (K, tn, L)).2.2) (t.heap)) (wF 6 g)) 0 0 (wF 6 g) := by
  refine Met.ofW (cc := cX6_eliminates) (maxL := 5) (ret := (some .int)) (by decide) rfl ?_
  intro p e s m args below meth c s₁ B hml hv
  obtain ⟨rfl, ⟨w, hP, hw, hok⟩, hK, hI⟩ := hv
  have hx := B.exec
  have hb := B.bytes
  have hr := B.returns
  have hts := atoms_spec (ws := wsX6_eliminates) B.pre
  have hown : s.vm.findClass RX6 = some m.cls := findClass_of_methodNamed B.named
  have hlocks := B.notSynchronized
  have hS : va_S (wF 6 g) s.heap s.heap [] := va_S.rf
  have hin6 : ∀ w ∈ wsX60, w ∈ wsX6_eliminates := by decide +kernel
  have hA : ∀ k, k < 6 → (wF 6 g) (g k) := wF_in
  have hl := lv_entry ([.ref ((g 0)), .int (nI u)]) (n := 5) (Nat.le_of_ble_eq_true rfl)
  rw [lg_entry_eq]
  generalize (lg_sl ([.ref ((g 0)), .int (nI u)]) ++ List.replicate (5 - (lg_sl ([.ref ((g 0)), .int (nI u)])).length) Slot.unset).toArray = ls at hl ⊢
  have hl : lv_has ls 5 [(0, .ref ((g 0))), (1, .int (nI u))] := hl
  have hP : wP E 6 g (moF E g th (mdE nb va se (va_up rv u (rvE li K go tn lo L.length w))) aa sv sm tx ln ro ai wr dg) s.heap := hP
  obtain ⟨hWl, hK12, hW12⟩ := id hok
  have hal := alnM_lt hW12
  refine lv_aload_n hx hb dX6_eliminates_0 rfl (lv_at hl 0 rfl) ?_
  refine w_get (C := RX6) (T := TX6) (N := 11) (ci := 6) (v := .ref ((g 1))) hx hb hts hin6 hown hK hP 0 (by decide) rfl rfl 1 (by decide) (hts (.fieldLink RX6 7 "MixedBlocksModel" "s" "[I") (List.mem_of_getElem? (i := 1) rfl)) (fun _ h9 => h9) rfl dX6_eliminates_1 ?_
  refine lv_iload_n hx hb dX6_eliminates_4 rfl (lv_at hl 1 rfl) ?_
  refine lv_iconst (v := 1) hx hb dX6_eliminates_5 (by decide) ?_
  refine va_calli (va_runS (As := [.int (nI u), .int 1]) (rest := [.ref ((g 1))]) ⟨hx, hb, hml, hown, hts⟩ (c_X6_of l u 1) (va_cwS 2 hts gX6_eliminates_X6_of rfl rfl rfl (by decide +kernel) ⟨Nat.le_of_ble_eq_true rfl, Nat.le_of_ble_eq_true rfl⟩) ⟨wU_blind, fun U hU hW => ⟨rfl, trivial⟩⟩ rfl rfl hl.1 rfl (lv_room (Nat.le_of_ble_eq_true rfl)) dX6_eliminates_6 ⟨Nat.zero_le _, Nat.zero_le _⟩) hS (fun q _ h => h.elim) (fun q h => h.elim) (fun r_1 uu t H_1 locs_1 ht hvm hw hB hz1 hk1 hS => ?_)
  have hP := hP.same hk1
  obtain rfl : r_1 = (nI (14 + 30 * u + 1)) := hw
  refine w_iald hx hb hK hP 1 (by decide) rfl (vp_in_nI (by omega) (by decide)) dX6_eliminates_9 ?_
  rw [nI_clamp (by omega), md_g1]
  refine va_calli (va_runS (As := [.int (nI K)]) (rest := []) ⟨hx, hb, hml, hown, hts⟩ (c_X6_bits l K (by omega)) (va_cwS 1 hts gX6_eliminates_X6_bits rfl rfl rfl (by decide +kernel) ⟨Nat.le_of_ble_eq_true rfl, Nat.le_of_ble_eq_true rfl⟩) ⟨wU_blind, fun U hU hW => ⟨rfl, trivial⟩⟩ rfl rfl hl.1 rfl (lv_room (Nat.le_of_ble_eq_true rfl)) dX6_eliminates_10 ⟨Nat.zero_le _, Nat.zero_le _⟩) hS (fun q _ h => h.elim) (fun q h => h.elim) (fun r_3 uu t H_3 locs_3 ht hvm hw hB hz1 hk1 hS => ?_)
  have hP := hP.same hk1
  have hpl_2 := pc_le K
  obtain rfl : r_3 = (nI (pc K)) := hw
  refine lv_istore_n (lv' := [(2, .int ((nI (pc K)))), (0, .ref ((g 0))), (1, .int (nI u))]) hx hb dX6_eliminates_13 rfl hl (by decide) rfl (fun ls hl => ?_)
  refine lv_aload_n hx hb dX6_eliminates_14 rfl (lv_at hl 1 rfl) ?_
  refine lv_iload_n hx hb dX6_eliminates_15 rfl (lv_at hl 2 rfl) ?_
  refine va_calli (va_runV (As := [.int (nI u)]) (rest := []) ⟨hx, hb, hml, hown, hts⟩ (c_X6_alone l E g th aa sv sm tx ln ro ai wr dg nb va se rv u li K go tn lo L hu3 ) (cwV 1 hts gX6_eliminates_X6_alone rfl rfl rfl (by decide +kernel) ⟨Nat.le_of_ble_eq_true rfl, Nat.le_of_ble_eq_true rfl⟩) ⟨wS.blind, (w_recv hK hP 0 (by decide) rfl (ci := 6) rfl), fun U hU hW => wS.go ⟨_, hP, hw, hok⟩ hK hI hU hW⟩ rfl rfl hl.1 rfl (lv_room (Nat.le_of_ble_eq_true rfl)) dX6_eliminates_16 ⟨Nat.zero_le _, Nat.zero_le _⟩) hS (fun q _ h => h) (fun q h => h) (fun r_4 uu t H_4 locs_4 ht hvm hw hB hz1 hk1 hS => ?_)
  rw [ht] at hB
  obtain ⟨ro_4, w_4, hP, hw_4, hok_4⟩ := hB
  have hP : wP E 6 g (moF E g th (mdE nb va se (va_up rv u (rvE li K go tn lo L.length w_4))) aa sv sm tx ln ro_4 ai wr dg) H_4 := hP
  have hkk_4 := hok_4.2.1
  obtain rfl : r_4 = (nI (alnM (redW L))) := hw
  refine lv_istore_n (lv' := [(3, .int ((nI (alnM (redW L))))), (2, .int ((nI (pc K)))), (0, .ref ((g 0))), (1, .int (nI u))]) hx hb dX6_eliminates_19 rfl hl (by decide) rfl (fun ls hl => ?_)
  refine lv_iconst (v := 0) hx hb dX6_eliminates_20 (by decide) ?_
  refine lv_istore (lv' := [(4, .int 0), (3, .int ((nI (alnM (redW L))))), (2, .int ((nI (pc K)))), (0, .ref ((g 0))), (1, .int (nI u))]) hx hb dX6_eliminates_21 hl (by decide) rfl (fun ls hl => ?_)
  have L23 : ∀ (k : Nat) (i K2 : Nat) (tn2 : Int32) (L2 : List Nat) (w2 : Nat → Int32) (H : Heap) (locs : List Loc) (ls : Array Slot), i + k = nb → itr (elS (alnM (redW L))) k i (K2, tn2, L2) = (elM nb (alnM (redW L)) (K, tn, L)) → wtL L2 w2 → wtO K2 L2 → wP E 6 g (moF E g th (mdE nb va se (va_up rv u (rvE li K2 go tn2 lo L2.length w2))) aa sv sm tx ln ro_4 ai wr dg) H → va_S (wF 6 g) s.heap H locs → lv_has ls 5 [(4, .int (nI i)), (3, .int (nI (alnM (redW L)))), (2, .int (nI (pc K))), (0, .ref ((g 0))), (1, .int (nI u))] → W p l e (headSpec wsX6_eliminates ({ frames := 3, cells := 0, slots := 0, locals := 70 })).room s m ([.ref ((g 0)), .int (nI u)] : List Value).toArray below meth c H locs 0 0 (MQ below (va_Qi (fun (r : Int32) (_ : Unit) => r = nI (pc (elM nb (alnM (redW L)) (K, tn, L)).1) - nI (pc K)) (fun _ t => ∃ ro2 : Nat → Int32, moR E g th aa sv sm tx ln ro2 ai wr dg nb va se rv u li ((elM nb (alnM (redW L)) (K, tn, L)).1) go ((elM nb (alnM (redW L)) (K, tn, L)).2.1) lo ((elM nb (alnM (redW L)) (K, tn, L)).2.2) (t.heap)) (wF 6 g)) ([.ref ((g 0)), .int (nI u)] : List Value).toArray s 0 0 (wF 6 g)) (F0 m 23 ls []) := by
    intro k
    induction k with
    | zero =>
      intro i K2 tn2 L2 w2 H locs ls hi hres hw2 hok2 hP hS hl
      have hk2 := hok2.2.1
      refine lv_iload hx hb dX6_eliminates_23 (lv_at hl 0 rfl) ?_
      refine lv_aload_n hx hb dX6_eliminates_25 rfl (lv_at hl 3 rfl) ?_
      refine w_get (C := RX6) (T := TX6) (N := 11) (ci := 6) (v := .ref ((g 1))) hx hb hts hin6 hown hK hP 0 (by decide) rfl rfl 1 (by decide) (hts (.fieldLink RX6 7 "MixedBlocksModel" "s" "[I") (List.mem_of_getElem? (i := 1) rfl)) (fun _ h9 => h9) rfl dX6_eliminates_26 ?_
      refine lv_iconst (v := 0) hx hb dX6_eliminates_29 (by decide) ?_
      refine w_iald hx hb hK hP 1 (by decide) rfl (vp_in_nI (n := 0) (by decide) (by decide)) dX6_eliminates_30 ?_
      rw [mdE_0]
      refine lv_icmp_ge (tgt := 82) hx hb dX6_eliminates_31 (by decide) (fun c_5 => ?_) (fun c_5 => ?_)
      · have n_5 : nb ≤ i := (nI_leI (a := nb) (b := i) (by omega) (by omega)).mp c_5
        refine lv_aload_n hx hb dX6_eliminates_82 rfl (lv_at hl 3 rfl) ?_
        refine w_get (C := RX6) (T := TX6) (N := 11) (ci := 6) (v := .ref ((g 1))) hx hb hts hin6 hown hK hP 0 (by decide) rfl rfl 1 (by decide) (hts (.fieldLink RX6 7 "MixedBlocksModel" "s" "[I") (List.mem_of_getElem? (i := 1) rfl)) (fun _ h9 => h9) rfl dX6_eliminates_83 ?_
        refine lv_iload_n hx hb dX6_eliminates_86 rfl (lv_at hl 4 rfl) ?_
        refine lv_iconst (v := 1) hx hb dX6_eliminates_87 (by decide) ?_
        refine va_calli (va_runS (As := [.int (nI u), .int 1]) (rest := [.ref ((g 1))]) ⟨hx, hb, hml, hown, hts⟩ (c_X6_of l u 1) (va_cwS 2 hts gX6_eliminates_X6_of rfl rfl rfl (by decide +kernel) ⟨Nat.le_of_ble_eq_true rfl, Nat.le_of_ble_eq_true rfl⟩) ⟨wU_blind, fun U hU hW => ⟨rfl, trivial⟩⟩ rfl rfl hl.1 rfl (lv_room (Nat.le_of_ble_eq_true rfl)) dX6_eliminates_88 ⟨Nat.zero_le _, Nat.zero_le _⟩) hS (fun q _ h => h.elim) (fun q h => h.elim) (fun r_6 uu t H_6 locs_6 ht hvm hw hB hz1 hk1 hS => ?_)
        have hP := hP.same hk1
        obtain rfl : r_6 = (nI (14 + 30 * u + 1)) := hw
        refine w_iald hx hb hK hP 1 (by decide) rfl (vp_in_nI (by omega) (by decide)) dX6_eliminates_91 ?_
        rw [nI_clamp (by omega), md_g1]
        refine va_calli (va_runS (As := [.int (nI K2)]) (rest := []) ⟨hx, hb, hml, hown, hts⟩ (c_X6_bits l K2 (by omega)) (va_cwS 1 hts gX6_eliminates_X6_bits rfl rfl rfl (by decide +kernel) ⟨Nat.le_of_ble_eq_true rfl, Nat.le_of_ble_eq_true rfl⟩) ⟨wU_blind, fun U hU hW => ⟨rfl, trivial⟩⟩ rfl rfl hl.1 rfl (lv_room (Nat.le_of_ble_eq_true rfl)) dX6_eliminates_92 ⟨Nat.zero_le _, Nat.zero_le _⟩) hS (fun q _ h => h.elim) (fun q h => h.elim) (fun r_8 uu t H_8 locs_8 ht hvm hw hB hz1 hk1 hS => ?_)
        have hP := hP.same hk1
        have hpl_7 := pc_le K2
        obtain rfl : r_8 = (nI (pc K2)) := hw
        refine lv_iload_n hx hb dX6_eliminates_95 rfl (lv_at hl 2 rfl) ?_
        refine lv_isub hx hb dX6_eliminates_96 ?_
        have hre : (K2, tn2, L2) = (elM nb (alnM (redW L)) (K, tn, L)) := hres
        exact W.iret (v := ((nI (pc K2)) - (nI (pc K)))) hx hb hr (fun t ht hW => ⟨⟨_, (), rfl, (by show _ = _; rw [← hre]), (by show ∃ ro2 : Nat → Int32, moR E g th aa sv sm tx ln ro2 ai wr dg nb va se rv u li ((elM nb (alnM (redW L)) (K, tn, L)).1) go ((elM nb (alnM (redW L)) (K, tn, L)).2.1) lo ((elM nb (alnM (redW L)) (K, tn, L)).2.2) (t.heap); rw [ht, ← hre]; exact ⟨_, _, hP, hw2, hok2⟩)⟩, hS.F ht⟩) hS.2.2 dX6_eliminates_97
      · have n_5 : ¬ (nb ≤ i) := fun z => c_5 ((nI_leI (a := nb) (b := i) (by omega) (by omega)).mpr z)
        exfalso
        omega
    | succ k ihk =>
      intro i K2 tn2 L2 w2 H locs ls hi hres hw2 hok2 hP hS hl
      have hk2 := hok2.2.1
      refine lv_iload hx hb dX6_eliminates_23 (lv_at hl 0 rfl) ?_
      refine lv_aload_n hx hb dX6_eliminates_25 rfl (lv_at hl 3 rfl) ?_
      refine w_get (C := RX6) (T := TX6) (N := 11) (ci := 6) (v := .ref ((g 1))) hx hb hts hin6 hown hK hP 0 (by decide) rfl rfl 1 (by decide) (hts (.fieldLink RX6 7 "MixedBlocksModel" "s" "[I") (List.mem_of_getElem? (i := 1) rfl)) (fun _ h9 => h9) rfl dX6_eliminates_26 ?_
      refine lv_iconst (v := 0) hx hb dX6_eliminates_29 (by decide) ?_
      refine w_iald hx hb hK hP 1 (by decide) rfl (vp_in_nI (n := 0) (by decide) (by decide)) dX6_eliminates_30 ?_
      rw [mdE_0]
      refine lv_icmp_ge (tgt := 82) hx hb dX6_eliminates_31 (by decide) (fun c_9 => ?_) (fun c_9 => ?_)
      · have n_9 : nb ≤ i := (nI_leI (a := nb) (b := i) (by omega) (by omega)).mp c_9
        exfalso
        omega
      · have n_9 : ¬ (nb ≤ i) := fun z => c_9 ((nI_leI (a := nb) (b := i) (by omega) (by omega)).mpr z)
        refine lv_iload_n hx hb dX6_eliminates_34 rfl (lv_at hl 1 rfl) ?_
        refine lv_iload hx hb dX6_eliminates_35 (lv_at hl 0 rfl) ?_
        refine lv_ishr hx hb dX6_eliminates_37 ?_
        refine lv_iconst (v := 1) hx hb dX6_eliminates_38 (by decide) ?_
        refine lv_iand hx hb dX6_eliminates_39 ?_
        rw [show ((nI (alnM (redW L))) >>> ((nI i) &&& 31)) &&& 1 = nI (bN (alnM (redW L)) i) from bN_I (m := (alnM (redW L))) (b := i) (by omega) (by omega)]
        refine lv_iconst (v := 1) hx hb dX6_eliminates_40 (by decide) ?_
        refine lv_icmp_ne (tgt := 76) hx hb dX6_eliminates_41 (by decide) (fun c_10 => ?_) (fun c_10 => ?_)
        · refine lv_iinc (v := (nI (i + 1))) (lv' := [(4, .int (nI (i + 1))), (3, .int (nI (alnM (redW L)))), (2, .int (nI (pc K))), (0, .ref ((g 0))), (1, .int (nI u))]) hx hb dX6_eliminates_76 hl (k := 0) rfl (nI_1 _) (by decide) rfl (fun ls hl => ?_)
          refine lv_goto (tgt := 23) hx hb dX6_eliminates_79 (by decide) ?_
          have hes : elS (alnM (redW L)) i (K2, tn2, L2) = (K2, tn2, L2) := by rw [elS, if_neg (by rw [bN_n c_10]; decide)]
          exact ihk (i + 1) K2 tn2 L2 w2 _ _ ls (by omega) (by rw [← hes]; exact hres) hw2 hok2 hP hS (lv_sub hl [0, 1, 2, 3, 4] rfl)
        · refine lv_aload_n hx hb dX6_eliminates_44 rfl (lv_at hl 3 rfl) ?_
          refine w_get (C := RX6) (T := TX6) (N := 11) (ci := 6) (v := .ref ((g 1))) hx hb hts hin6 hown hK hP 0 (by decide) rfl rfl 1 (by decide) (hts (.fieldLink RX6 7 "MixedBlocksModel" "s" "[I") (List.mem_of_getElem? (i := 1) rfl)) (fun _ h9 => h9) rfl dX6_eliminates_45 ?_
          refine lv_iload_n hx hb dX6_eliminates_48 rfl (lv_at hl 4 rfl) ?_
          refine lv_iconst (v := 1) hx hb dX6_eliminates_49 (by decide) ?_
          refine va_calli (va_runS (As := [.int (nI u), .int 1]) (rest := [.ref ((g 1))]) ⟨hx, hb, hml, hown, hts⟩ (c_X6_of l u 1) (va_cwS 2 hts gX6_eliminates_X6_of rfl rfl rfl (by decide +kernel) ⟨Nat.le_of_ble_eq_true rfl, Nat.le_of_ble_eq_true rfl⟩) ⟨wU_blind, fun U hU hW => ⟨rfl, trivial⟩⟩ rfl rfl hl.1 rfl (lv_room (Nat.le_of_ble_eq_true rfl)) dX6_eliminates_50 ⟨Nat.zero_le _, Nat.zero_le _⟩) hS (fun q _ h => h.elim) (fun q h => h.elim) (fun r_11 uu t H_11 locs_11 ht hvm hw hB hz1 hk1 hS => ?_)
          have hP := hP.same hk1
          obtain rfl : r_11 = (nI (14 + 30 * u + 1)) := hw
          refine w_iald hx hb hK hP 1 (by decide) rfl (vp_in_nI (by omega) (by decide)) dX6_eliminates_53 ?_
          rw [nI_clamp (by omega), md_g1]
          refine lv_iload hx hb dX6_eliminates_54 (lv_at hl 0 rfl) ?_
          refine lv_ishr hx hb dX6_eliminates_56 ?_
          refine lv_iconst (v := 1) hx hb dX6_eliminates_57 (by decide) ?_
          refine lv_iand hx hb dX6_eliminates_58 ?_
          rw [show ((nI K2) >>> ((nI i) &&& 31)) &&& 1 = nI (bN K2 i) from bN_I (m := K2) (b := i) (by omega) (by omega)]
          refine lv_if_ne (tgt := 76) hx hb dX6_eliminates_59 (by decide) (fun c_12 => ?_) (fun c_12 => ?_)
          · refine lv_iinc (v := (nI (i + 1))) (lv' := [(4, .int (nI (i + 1))), (3, .int (nI (alnM (redW L)))), (2, .int (nI (pc K))), (0, .ref ((g 0))), (1, .int (nI u))]) hx hb dX6_eliminates_76 hl (k := 0) rfl (nI_1 _) (by decide) rfl (fun ls hl => ?_)
            refine lv_goto (tgt := 23) hx hb dX6_eliminates_79 (by decide) ?_
            have hes : elS (alnM (redW L)) i (K2, tn2, L2) = (K2, tn2, L2) := by rw [elS, if_pos (bN_y c_10), if_pos (bN_1 c_12)]
            exact ihk (i + 1) K2 tn2 L2 w2 _ _ ls (by omega) (by rw [← hes]; exact hres) hw2 hok2 hP hS (lv_sub hl [0, 1, 2, 3, 4] rfl)
          · have hp2 := pow12 (b := i) (by omega)
            refine lv_aload_n hx hb dX6_eliminates_62 rfl (lv_at hl 3 rfl) ?_
            refine lv_iload_n hx hb dX6_eliminates_63 rfl (lv_at hl 4 rfl) ?_
            refine lv_iconst (v := 1) hx hb dX6_eliminates_64 (by decide) ?_
            refine lv_iload hx hb dX6_eliminates_65 (lv_at hl 0 rfl) ?_
            refine lv_ishl hx hb dX6_eliminates_67 ?_
            rw [show (1 : Int32) <<< ((nI i) &&& 31) = nI (2 ^ i) from shl1 (b := i) (by omega)]
            refine va_callv (va_runV (As := [.int (nI u), .int (nI (2 ^ i))]) (rest := []) ⟨hx, hb, hml, hown, hts⟩ (c_X6_knows l E g th aa sv sm tx ln ro_4 ai wr dg nb va se rv u li K2 go tn2 lo L2 hu3 (2 ^ i) (by omega)) (cwV 2 hts gX6_eliminates_X6_knows rfl rfl rfl (by decide +kernel) ⟨Nat.le_of_ble_eq_true rfl, Nat.le_of_ble_eq_true rfl⟩) ⟨wS.blind, (w_recv hK hP 0 (by decide) rfl (ci := 6) rfl), fun U hU hW => wS.go ⟨_, hP, hw2, hok2⟩ hK hI hU hW⟩ rfl rfl hl.1 rfl (lv_room (Nat.le_of_ble_eq_true rfl)) dX6_eliminates_68 ⟨Nat.zero_le _, Nat.zero_le _⟩) hS (fun q _ h => h) (fun q h => h) (fun uu t H_13 locs_13 ht hvm hw hB hz1 hk1 hS => ?_)
            rw [ht] at hB
            obtain ⟨w_13, hP, hw_13, hok_13⟩ := hB
            have hP : wP E 6 g (moF E g th (mdE nb va se (va_up rv u (rvE li (K2 ||| (2 ^ i)) go tn2 lo ((knW (2 ^ i) L2).length) w_13))) aa sv sm tx ln ro_4 ai wr dg) H_13 := hP
            have hkk_13 := hok_13.2.1
            refine lv_aload_n hx hb dX6_eliminates_71 rfl (lv_at hl 3 rfl) ?_
            refine lv_iload_n hx hb dX6_eliminates_72 rfl (lv_at hl 4 rfl) ?_
            refine va_callv (va_runV (As := [.int (nI u)]) (rest := []) ⟨hx, hb, hml, hown, hts⟩ (c_X6_peel l E g th aa sv sm tx ln ro_4 ai wr dg nb va se rv u li (K2 ||| (2 ^ i)) go tn2 lo (knW (2 ^ i) L2) hu3 ) (cwV 1 hts gX6_eliminates_X6_peel rfl rfl rfl (by decide +kernel) ⟨Nat.le_of_ble_eq_true rfl, Nat.le_of_ble_eq_true rfl⟩) ⟨wS.blind, (w_recv hK hP 0 (by decide) rfl (ci := 6) rfl), fun U hU hW => wS.go ⟨_, hP, hw_13, hok_13⟩ hK hI hU hW⟩ rfl rfl hl.1 rfl (lv_room (Nat.le_of_ble_eq_true rfl)) dX6_eliminates_73 ⟨Nat.zero_le _, Nat.zero_le _⟩) hS (fun q _ h => h) (fun q h => h) (fun uu t H_14 locs_14 ht hvm hw hB hz1 hk1 hS => ?_)
            rw [ht] at hB
            obtain ⟨w_14, hP, hw_14, hok_14⟩ := hB
            have hP : wP E 6 g (moF E g th (mdE nb va se (va_up rv u (rvE li ((plM (knW (2 ^ i) L2).length (K2 ||| (2 ^ i)) tn2 (knW (2 ^ i) L2)).1) go ((plM (knW (2 ^ i) L2).length (K2 ||| (2 ^ i)) tn2 (knW (2 ^ i) L2)).2.1) lo (((plM (knW (2 ^ i) L2).length (K2 ||| (2 ^ i)) tn2 (knW (2 ^ i) L2)).2.2).length) w_14))) aa sv sm tx ln ro_4 ai wr dg) H_14 := hP
            have hkk_14 := hok_14.2.1
            refine lv_iinc (v := (nI (i + 1))) (lv' := [(4, .int (nI (i + 1))), (3, .int (nI (alnM (redW L)))), (2, .int (nI (pc K))), (0, .ref ((g 0))), (1, .int (nI u))]) hx hb dX6_eliminates_76 hl (k := 0) rfl (nI_1 _) (by decide) rfl (fun ls hl => ?_)
            refine lv_goto (tgt := 23) hx hb dX6_eliminates_79 (by decide) ?_
            have hes : elS (alnM (redW L)) i (K2, tn2, L2) = ((plM (knW (2 ^ i) L2).length (K2 ||| (2 ^ i)) tn2 (knW (2 ^ i) L2)).1, (plM (knW (2 ^ i) L2).length (K2 ||| (2 ^ i)) tn2 (knW (2 ^ i) L2)).2.1, (plM (knW (2 ^ i) L2).length (K2 ||| (2 ^ i)) tn2 (knW (2 ^ i) L2)).2.2) := by rw [elS, if_pos (bN_y c_10), if_neg (by show ¬ K2.testBit i = true; rw [bN_0 c_12]; decide)]
            exact ihk (i + 1) (plM (knW (2 ^ i) L2).length (K2 ||| (2 ^ i)) tn2 (knW (2 ^ i) L2)).1 (plM (knW (2 ^ i) L2).length (K2 ||| (2 ^ i)) tn2 (knW (2 ^ i) L2)).2.1 (plM (knW (2 ^ i) L2).length (K2 ||| (2 ^ i)) tn2 (knW (2 ^ i) L2)).2.2 w_14 _ _ ls (by omega) (by rw [← hes]; exact hres) hw_14 hok_14 hP hS (lv_sub hl [0, 1, 2, 3, 4] rfl)
  exact L23 nb 0 K tn L w_4 _ _ ls (Nat.zero_add _) rfl hw_4 hok_4 hP hS (lv_sub hl [0, 1, 2, 3, 4] rfl)
set_option maxHeartbeats 4000000 in
set_option maxRecDepth 100000 in
theorem c_X6_forgets (l : Launch) (E : wE) (g : Nat → Nat) (th : Int32) (aa sv : Nat → Int32) (sm : Nat) (tx : Nat → Int32) (ln : Nat) (ro : Nat → Int32) (ai : Nat) (wr : Bool) (dg : Int64) (nb : Nat) (va : Nat → Int32) (se : Int32) (rv : Nat → Nat → Int32) (u : Nat) (li : Bool) (K : Nat) (go tn lo : Int32) (L : List Nat) (hu3 : u < 3)  : Met l yX6_forgets wsX6_forgets ({ frames := 1, cells := 0, slots := 0, locals := 21 }) (va_Pc [.ref ((g 0)), .int (nI u)] (wS E 6 g (fun H => moR E g th aa sv sm tx ln ro ai wr dg nb va se rv u li K go tn lo L (H)))) (va_Qv (fun (_ : Unit) => True) (fun _ t => moR E g th aa sv sm tx ln ro ai wr dg nb va se rv u li 0 go tn lo ([]) (t.heap)) (wF 6 g)) 0 0 (wF 6 g) := by
  refine Met.ofW (cc := cX6_forgets) (maxL := 3) (ret := none) (by decide) rfl ?_
  intro p e s m args below meth c s₁ B hml hv
  obtain ⟨rfl, ⟨w, hP, hw, hok⟩, hK, hI⟩ := hv
  have hx := B.exec
  have hb := B.bytes
  have hr := B.returns
  have hts := atoms_spec (ws := wsX6_forgets) B.pre
  have hown : s.vm.findClass RX6 = some m.cls := findClass_of_methodNamed B.named
  have hlocks := B.notSynchronized
  have hS : va_S (wF 6 g) s.heap s.heap [] := va_S.rf
  have hin6 : ∀ w ∈ wsX60, w ∈ wsX6_forgets := by decide +kernel
  have hA : ∀ k, k < 6 → (wF 6 g) (g k) := wF_in
  have hl := lv_entry ([.ref ((g 0)), .int (nI u)]) (n := 3) (Nat.le_of_ble_eq_true rfl)
  rw [lg_entry_eq]
  generalize (lg_sl ([.ref ((g 0)), .int (nI u)]) ++ List.replicate (3 - (lg_sl ([.ref ((g 0)), .int (nI u)])).length) Slot.unset).toArray = ls at hl ⊢
  have hl : lv_has ls 3 [(0, .ref ((g 0))), (1, .int (nI u))] := hl
  have hP : wP E 6 g (moF E g th (mdE nb va se (va_up rv u (rvE li K go tn lo L.length w))) aa sv sm tx ln ro ai wr dg) s.heap := hP
  obtain ⟨hWl, hK12, hW12⟩ := id hok
  refine lv_aload_n hx hb dX6_forgets_0 rfl (lv_at hl 0 rfl) ?_
  refine w_get (C := RX6) (T := TX6) (N := 11) (ci := 6) (v := .ref ((g 1))) hx hb hts hin6 hown hK hP 0 (by decide) rfl rfl 1 (by decide) (hts (.fieldLink RX6 7 "MixedBlocksModel" "s" "[I") (List.mem_of_getElem? (i := 1) rfl)) (fun _ h9 => h9) rfl dX6_forgets_1 ?_
  refine lv_iload_n hx hb dX6_forgets_4 rfl (lv_at hl 1 rfl) ?_
  refine lv_iconst (v := 1) hx hb dX6_forgets_5 (by decide) ?_
  refine va_calli (va_runS (As := [.int (nI u), .int 1]) (rest := [.ref ((g 1))]) ⟨hx, hb, hml, hown, hts⟩ (c_X6_of l u 1) (va_cwS 2 hts gX6_forgets_X6_of rfl rfl rfl (by decide +kernel) ⟨Nat.le_of_ble_eq_true rfl, Nat.le_of_ble_eq_true rfl⟩) ⟨wU_blind, fun U hU hW => ⟨rfl, trivial⟩⟩ rfl rfl hl.1 rfl (lv_room (Nat.le_of_ble_eq_true rfl)) dX6_forgets_6 ⟨Nat.zero_le _, Nat.zero_le _⟩) hS (fun q _ h => h.elim) (fun q h => h.elim) (fun r_1 uu t H_1 locs_1 ht hvm hw hB hz1 hk1 hS => ?_)
  have hP := hP.same hk1
  obtain rfl : r_1 = (nI (14 + 30 * u + 1)) := hw
  refine lv_iconst (v := 0) hx hb dX6_forgets_9 (by decide) ?_
  refine w_iast hx hb hK hP hI hA hS 1 (by decide) rfl (vp_in_nI (by omega) (by decide)) dX6_forgets_10 (moF E g th (upd (mdE nb va se (va_up rv u (rvE li K go tn lo L.length w))) (14 + 30 * u + 1) 0) aa sv sm tx ln ro ai wr dg) (congrArg (fun z : Nat => (Sum.inl (E.2.1, 104, Sum.inl (upd (mdE nb va se (va_up rv u (rvE li K go tn lo L.length w))) z 0)) : va_E)) (nI_clamp (by omega)).symm) mo_ne1 (fun H_2 locs_2 hP hS => ?_)
  rw [show (upd (mdE nb va se (va_up rv u (rvE li K go tn lo L.length w))) (14 + 30 * u + 1) 0) = (mdE nb va se (va_up rv u (rvE li 0 go tn lo L.length w))) from md_u1 (K' := 0)] at hP
  refine lv_aload_n hx hb dX6_forgets_11 rfl (lv_at hl 0 rfl) ?_
  refine w_get (C := RX6) (T := TX6) (N := 11) (ci := 6) (v := .ref ((g 1))) hx hb hts hin6 hown hK hP 0 (by decide) rfl rfl 1 (by decide) (hts (.fieldLink RX6 7 "MixedBlocksModel" "s" "[I") (List.mem_of_getElem? (i := 1) rfl)) (fun _ h9 => h9) rfl dX6_forgets_12 ?_
  refine lv_iload_n hx hb dX6_forgets_15 rfl (lv_at hl 1 rfl) ?_
  refine lv_iconst (v := 5) hx hb dX6_forgets_16 (by decide) ?_
  refine va_calli (va_runS (As := [.int (nI u), .int 5]) (rest := [.ref ((g 1))]) ⟨hx, hb, hml, hown, hts⟩ (c_X6_of l u 5) (va_cwS 2 hts gX6_forgets_X6_of rfl rfl rfl (by decide +kernel) ⟨Nat.le_of_ble_eq_true rfl, Nat.le_of_ble_eq_true rfl⟩) ⟨wU_blind, fun U hU hW => ⟨rfl, trivial⟩⟩ rfl rfl hl.1 rfl (lv_room (Nat.le_of_ble_eq_true rfl)) dX6_forgets_17 ⟨Nat.zero_le _, Nat.zero_le _⟩) hS (fun q _ h => h.elim) (fun q h => h.elim) (fun r_3 uu t H_3 locs_3 ht hvm hw hB hz1 hk1 hS => ?_)
  have hP := hP.same hk1
  obtain rfl : r_3 = (nI (14 + 30 * u + 5)) := hw
  refine lv_iconst (v := 0) hx hb dX6_forgets_20 (by decide) ?_
  refine w_iast hx hb hK hP hI hA hS 1 (by decide) rfl (vp_in_nI (by omega) (by decide)) dX6_forgets_21 (moF E g th (upd (mdE nb va se (va_up rv u (rvE li 0 go tn lo L.length w))) (14 + 30 * u + 5) 0) aa sv sm tx ln ro ai wr dg) (congrArg (fun z : Nat => (Sum.inl (E.2.1, 104, Sum.inl (upd (mdE nb va se (va_up rv u (rvE li 0 go tn lo L.length w))) z 0)) : va_E)) (nI_clamp (by omega)).symm) mo_ne1 (fun H_4 locs_4 hP hS => ?_)
  rw [show (upd (mdE nb va se (va_up rv u (rvE li 0 go tn lo L.length w))) (14 + 30 * u + 5) 0) = (mdE nb va se (va_up rv u (rvE li 0 go tn lo 0 w))) from md_u5 (n' := 0)] at hP
  refine lv_iconst (v := 0) hx hb dX6_forgets_22 (by decide) ?_
  refine lv_istore_n (lv' := [(2, .int 0), (0, .ref ((g 0))), (1, .int (nI u))]) hx hb dX6_forgets_23 rfl hl (by decide) rfl (fun ls hl => ?_)
  have L24 : ∀ (k : Nat) (i : Nat) (w3 : Nat → Int32) (H : Heap) (locs : List Loc) (ls : Array Slot), i + k = 24 → wP E 6 g (moF E g th (mdE nb va se (va_up rv u (rvE li 0 go tn lo 0 w3))) aa sv sm tx ln ro ai wr dg) H → va_S (wF 6 g) s.heap H locs → lv_has ls 3 [(2, .int (nI i)), (0, .ref ((g 0))), (1, .int (nI u))] → W p l e (headSpec wsX6_forgets ({ frames := 1, cells := 0, slots := 0, locals := 21 })).room s m ([.ref ((g 0)), .int (nI u)] : List Value).toArray below meth c H locs 0 0 (MQ below (va_Qv (fun (_ : Unit) => True) (fun _ t => moR E g th aa sv sm tx ln ro ai wr dg nb va se rv u li 0 go tn lo ([]) (t.heap)) (wF 6 g)) ([.ref ((g 0)), .int (nI u)] : List Value).toArray s 0 0 (wF 6 g)) (F0 m 24 ls []) := by
    intro k
    induction k with
    | zero =>
      intro i w3 H locs ls hi hP hS hl
      refine lv_iload_n hx hb dX6_forgets_24 rfl (lv_at hl 0 rfl) ?_
      refine lv_bipush (v := 24) hx hb dX6_forgets_25 (by decide) ?_
      refine lv_icmp_ge (tgt := 50) hx hb dX6_forgets_27 (by decide) (fun c_5 => ?_) (fun c_5 => ?_)
      · have n_5 : 24 ≤ i := (nI_leI (a := 24) (b := i) (by omega) (by omega)).mp c_5
        exact W.vret hx hb hr (fun t ht hW => ⟨⟨(), rfl, trivial, (by show moR E g th aa sv sm tx ln ro ai wr dg nb va se rv u li 0 go tn lo ([]) (t.heap); rw [ht]; exact ⟨w3, hP, (fun j hj => absurd hj (Nat.not_lt_zero j)), ⟨Nat.zero_le _, (by decide), (fun j hj => absurd hj (Nat.not_lt_zero j))⟩⟩)⟩, hS.F ht⟩) hS.2.2 dX6_forgets_50
      · have n_5 : ¬ (24 ≤ i) := fun z => c_5 ((nI_leI (a := 24) (b := i) (by omega) (by omega)).mpr z)
        exfalso
        omega
    | succ k ihk =>
      intro i w3 H locs ls hi hP hS hl
      refine lv_iload_n hx hb dX6_forgets_24 rfl (lv_at hl 0 rfl) ?_
      refine lv_bipush (v := 24) hx hb dX6_forgets_25 (by decide) ?_
      refine lv_icmp_ge (tgt := 50) hx hb dX6_forgets_27 (by decide) (fun c_6 => ?_) (fun c_6 => ?_)
      · have n_6 : 24 ≤ i := (nI_leI (a := 24) (b := i) (by omega) (by omega)).mp c_6
        exfalso
        omega
      · have n_6 : ¬ (24 ≤ i) := fun z => c_6 ((nI_leI (a := 24) (b := i) (by omega) (by omega)).mpr z)
        refine lv_aload_n hx hb dX6_forgets_30 rfl (lv_at hl 1 rfl) ?_
        refine w_get (C := RX6) (T := TX6) (N := 11) (ci := 6) (v := .ref ((g 1))) hx hb hts hin6 hown hK hP 0 (by decide) rfl rfl 1 (by decide) (hts (.fieldLink RX6 7 "MixedBlocksModel" "s" "[I") (List.mem_of_getElem? (i := 1) rfl)) (fun _ h9 => h9) rfl dX6_forgets_31 ?_
        refine lv_iload_n hx hb dX6_forgets_34 rfl (lv_at hl 2 rfl) ?_
        refine lv_bipush (v := 6) hx hb dX6_forgets_35 (by decide) ?_
        refine lv_iload_n hx hb dX6_forgets_37 rfl (lv_at hl 0 rfl) ?_
        refine lv_iadd hx hb dX6_forgets_38 ?_
        rw [show 6 + (nI i) = nI (6 + i) from nI_add 6 i]
        refine va_calli (va_runS (As := [.int (nI u), .int (nI (6 + i))]) (rest := [.ref ((g 1))]) ⟨hx, hb, hml, hown, hts⟩ (c_X6_of l u (6 + i)) (va_cwS 2 hts gX6_forgets_X6_of rfl rfl rfl (by decide +kernel) ⟨Nat.le_of_ble_eq_true rfl, Nat.le_of_ble_eq_true rfl⟩) ⟨wU_blind, fun U hU hW => ⟨rfl, trivial⟩⟩ rfl rfl hl.1 rfl (lv_room (Nat.le_of_ble_eq_true rfl)) dX6_forgets_39 ⟨Nat.zero_le _, Nat.zero_le _⟩) hS (fun q _ h => h.elim) (fun q h => h.elim) (fun r_7 uu t H_7 locs_7 ht hvm hw hB hz1 hk1 hS => ?_)
        have hP := hP.same hk1
        obtain rfl : r_7 = (nI (14 + 30 * u + (6 + i))) := hw
        refine lv_iconst (v := 0) hx hb dX6_forgets_42 (by decide) ?_
        refine w_iast hx hb hK hP hI hA hS 1 (by decide) rfl (vp_in_nI (by omega) (by decide)) dX6_forgets_43 (moF E g th (upd (mdE nb va se (va_up rv u (rvE li 0 go tn lo 0 w3))) (14 + 30 * u + (6 + i)) 0) aa sv sm tx ln ro ai wr dg) (congrArg (fun z : Nat => (Sum.inl (E.2.1, 104, Sum.inl (upd (mdE nb va se (va_up rv u (rvE li 0 go tn lo 0 w3))) z 0)) : va_E)) (nI_clamp (by omega)).symm) mo_ne1 (fun H_8 locs_8 hP hS => ?_)
        rw [show (upd (mdE nb va se (va_up rv u (rvE li 0 go tn lo 0 w3))) (14 + 30 * u + (6 + i)) 0) = (mdE nb va se (va_up rv u (rvE li 0 go tn lo 0 (upd w3 i 0)))) from md_uw (k := i) (by omega)] at hP
        refine lv_iinc (v := (nI (i + 1))) (lv' := [(2, .int (nI (i + 1))), (0, .ref ((g 0))), (1, .int (nI u))]) hx hb dX6_forgets_44 hl (k := 0) rfl (nI_1 _) (by decide) rfl (fun ls hl => ?_)
        refine lv_goto (tgt := 24) hx hb dX6_forgets_47 (by decide) ?_
        exact ihk (i + 1) (upd w3 i 0) _ _ ls (by omega) hP hS (lv_sub hl [0, 1, 2] rfl)
  exact L24 24 0 w _ _ ls rfl hP hS (lv_sub hl [0, 1, 2] rfl)
set_option maxHeartbeats 4000000 in
set_option maxRecDepth 100000 in
theorem c_X6_knownOf (l : Launch) (E : wE) (g : Nat → Nat) (th : Int32) (aa sv : Nat → Int32) (sm : Nat) (tx : Nat → Int32) (ln : Nat) (ro : Nat → Int32) (ai : Nat) (wr : Bool) (dg : Int64) (nb : Nat) (va : Nat → Int32) (se : Int32) (rv : Nat → Nat → Int32) (u : Nat) (li : Bool) (K : Nat) (go tn lo : Int32) (L : List Nat) (hu3 : u < 3) (b : Nat) (hb12 : b < 12) : Met l yX6_knownOf wsX6_knownOf ({ frames := 1, cells := 0, slots := 0, locals := 21 }) (va_Pc [.ref ((g 0)), .int (nI u), .int (nI b)] (wS E 6 g (fun H => moR E g th aa sv sm tx ln ro ai wr dg nb va se rv u li K go tn lo L (H)))) (va_Qi (fun (r : Int32) (_ : Unit) => r = (if K.testBit b = true then va b else -1)) (fun _ t => True) wN) 0 0 wN := by
  refine Met.ofW (cc := cX6_knownOf) (maxL := 3) (ret := (some .int)) (by decide) rfl ?_
  intro p e s m args below meth c s₁ B hml hv
  obtain ⟨rfl, ⟨w, hP, hw, hok⟩, hK, hI⟩ := hv
  have hx := B.exec
  have hb := B.bytes
  have hr := B.returns
  have hts := atoms_spec (ws := wsX6_knownOf) B.pre
  have hown : s.vm.findClass RX6 = some m.cls := findClass_of_methodNamed B.named
  have hlocks := B.notSynchronized
  have hS : va_S wN s.heap s.heap [] := va_S.rf
  have hin6 : ∀ w ∈ wsX60, w ∈ wsX6_knownOf := by decide +kernel
  have hl := lv_entry ([.ref ((g 0)), .int (nI u), .int (nI b)]) (n := 3) (Nat.le_of_ble_eq_true rfl)
  rw [lg_entry_eq]
  generalize (lg_sl ([.ref ((g 0)), .int (nI u), .int (nI b)]) ++ List.replicate (3 - (lg_sl ([.ref ((g 0)), .int (nI u), .int (nI b)])).length) Slot.unset).toArray = ls at hl ⊢
  have hl : lv_has ls 3 [(0, .ref ((g 0))), (1, .int (nI u)), (2, .int (nI b))] := hl
  have hP : wP E 6 g (moF E g th (mdE nb va se (va_up rv u (rvE li K go tn lo L.length w))) aa sv sm tx ln ro ai wr dg) s.heap := hP
  obtain ⟨hWl, hK12, hW12⟩ := id hok
  refine lv_aload_n hx hb dX6_knownOf_0 rfl (lv_at hl 0 rfl) ?_
  refine w_get (C := RX6) (T := TX6) (N := 11) (ci := 6) (v := .ref ((g 1))) hx hb hts hin6 hown hK hP 0 (by decide) rfl rfl 1 (by decide) (hts (.fieldLink RX6 7 "MixedBlocksModel" "s" "[I") (List.mem_of_getElem? (i := 1) rfl)) (fun _ h9 => h9) rfl dX6_knownOf_1 ?_
  refine lv_iload_n hx hb dX6_knownOf_4 rfl (lv_at hl 1 rfl) ?_
  refine lv_iconst (v := 1) hx hb dX6_knownOf_5 (by decide) ?_
  refine va_calli (va_runS (As := [.int (nI u), .int 1]) (rest := [.ref ((g 1))]) ⟨hx, hb, hml, hown, hts⟩ (c_X6_of l u 1) (va_cwS 2 hts gX6_knownOf_X6_of rfl rfl rfl (by decide +kernel) ⟨Nat.le_of_ble_eq_true rfl, Nat.le_of_ble_eq_true rfl⟩) ⟨wU_blind, fun U hU hW => ⟨rfl, trivial⟩⟩ rfl rfl hl.1 rfl (lv_room (Nat.le_of_ble_eq_true rfl)) dX6_knownOf_6 ⟨Nat.zero_le _, Nat.zero_le _⟩) hS (fun q _ h => h.elim) (fun q h => h.elim) (fun r_1 uu t H_1 locs_1 ht hvm hw hB hz1 hk1 hS => ?_)
  have hP := hP.same hk1
  obtain rfl : r_1 = (nI (14 + 30 * u + 1)) := hw
  refine w_iald hx hb hK hP 1 (by decide) rfl (vp_in_nI (by omega) (by decide)) dX6_knownOf_9 ?_
  rw [nI_clamp (by omega), md_g1]
  refine lv_iload_n hx hb dX6_knownOf_10 rfl (lv_at hl 2 rfl) ?_
  refine lv_ishr hx hb dX6_knownOf_11 ?_
  refine lv_iconst (v := 1) hx hb dX6_knownOf_12 (by decide) ?_
  refine lv_iand hx hb dX6_knownOf_13 ?_
  rw [show ((nI K) >>> ((nI b) &&& 31)) &&& 1 = nI (bN K b) from bN_I (m := K) (b := b) (by omega) (by omega)]
  refine lv_iconst (v := 1) hx hb dX6_knownOf_14 (by decide) ?_
  refine lv_icmp_ne (tgt := 29) hx hb dX6_knownOf_15 (by decide) (fun c_2 => ?_) (fun c_2 => ?_)
  · refine lv_iconst (v := (-1)) hx hb dX6_knownOf_29 (by decide) ?_
    exact W.iret (v := (-1)) hx hb hr (fun t ht hW => ⟨⟨_, (), rfl, (by show _ = _; rw [if_neg (by rw [bN_n c_2]; decide)]), trivial⟩, hS.F ht⟩) hS.2.2 dX6_knownOf_30
  · refine lv_aload_n hx hb dX6_knownOf_18 rfl (lv_at hl 0 rfl) ?_
    refine w_get (C := RX6) (T := TX6) (N := 11) (ci := 6) (v := .ref ((g 1))) hx hb hts hin6 hown hK hP 0 (by decide) rfl rfl 1 (by decide) (hts (.fieldLink RX6 7 "MixedBlocksModel" "s" "[I") (List.mem_of_getElem? (i := 1) rfl)) (fun _ h9 => h9) rfl dX6_knownOf_19 ?_
    refine lv_iconst (v := 2) hx hb dX6_knownOf_22 (by decide) ?_
    refine lv_iload_n hx hb dX6_knownOf_23 rfl (lv_at hl 2 rfl) ?_
    refine lv_iadd hx hb dX6_knownOf_24 ?_
    rw [show 2 + (nI b) = nI (2 + b) from nI_add 2 b]
    refine w_iald hx hb hK hP 1 (by decide) rfl (vp_in_nI (by omega) (by decide)) dX6_knownOf_25 ?_
    rw [nI_clamp (by omega), mdE_v (by omega)]
    refine lv_goto (tgt := 30) hx hb dX6_knownOf_26 (by decide) ?_
    exact W.iret (v := (va b)) hx hb hr (fun t ht hW => ⟨⟨_, (), rfl, (by show _ = _; rw [if_pos (bN_y c_2)]), trivial⟩, hS.F ht⟩) hS.2.2 dX6_knownOf_30
set_option maxHeartbeats 4000000 in
set_option maxRecDepth 100000 in
theorem c_X6_waitsAt (l : Launch) (E : wE) (g : Nat → Nat) (th : Int32) (aa sv : Nat → Int32) (sm : Nat) (tx : Nat → Int32) (ln : Nat) (ro : Nat → Int32) (ai : Nat) (wr : Bool) (dg : Int64) (nb : Nat) (va : Nat → Int32) (se : Int32) (rv : Nat → Nat → Int32) (u : Nat) (li : Bool) (K : Nat) (go tn lo : Int32) (L : List Nat) (hu3 : u < 3) (q9 j : Nat) (hq9 : q9 < 2 ^ 31) (hj : j < 2) (hnb : nb ≤ 12) : Met l yX6_waitsAt wsX6_waitsAt ({ frames := 1, cells := 0, slots := 0, locals := 23 }) (va_Pc [.ref ((g 0)), .int (nI u), .int (nI q9), .int (nI j)] (wS E 6 g (fun H => moR E g th aa sv sm tx ln ro ai wr dg nb va se rv u li K go tn lo L (H)))) (va_Qi (fun (r : Int32) (_ : Unit) => r = (if L.length ≤ q9 then -1 else if j = 0 then nI (L.getD q9 0) else vlM nb va (L.getD q9 0))) (fun _ t => True) wN) 0 0 wN := by
  refine Met.ofW (cc := cX6_waitsAt) (maxL := 5) (ret := (some .int)) (by decide) rfl ?_
  intro p e s m args below meth c s₁ B hml hv
  obtain ⟨rfl, ⟨w, hP, hw, hok⟩, hK, hI⟩ := hv
  have hx := B.exec
  have hb := B.bytes
  have hr := B.returns
  have hts := atoms_spec (ws := wsX6_waitsAt) B.pre
  have hown : s.vm.findClass RX6 = some m.cls := findClass_of_methodNamed B.named
  have hlocks := B.notSynchronized
  have hS : va_S wN s.heap s.heap [] := va_S.rf
  have hin6 : ∀ w ∈ wsX60, w ∈ wsX6_waitsAt := by decide +kernel
  have hl := lv_entry ([.ref ((g 0)), .int (nI u), .int (nI q9), .int (nI j)]) (n := 5) (Nat.le_of_ble_eq_true rfl)
  rw [lg_entry_eq]
  generalize (lg_sl ([.ref ((g 0)), .int (nI u), .int (nI q9), .int (nI j)]) ++ List.replicate (5 - (lg_sl ([.ref ((g 0)), .int (nI u), .int (nI q9), .int (nI j)])).length) Slot.unset).toArray = ls at hl ⊢
  have hl : lv_has ls 5 [(0, .ref ((g 0))), (1, .int (nI u)), (2, .int (nI q9)), (3, .int (nI j))] := hl
  have hP : wP E 6 g (moF E g th (mdE nb va se (va_up rv u (rvE li K go tn lo L.length w))) aa sv sm tx ln ro ai wr dg) s.heap := hP
  obtain ⟨hWl, hK12, hW12⟩ := id hok
  refine lv_iload_n hx hb dX6_waitsAt_0 rfl (lv_at hl 2 rfl) ?_
  refine lv_aload_n hx hb dX6_waitsAt_1 rfl (lv_at hl 0 rfl) ?_
  refine w_get (C := RX6) (T := TX6) (N := 11) (ci := 6) (v := .ref ((g 1))) hx hb hts hin6 hown hK hP 0 (by decide) rfl rfl 1 (by decide) (hts (.fieldLink RX6 7 "MixedBlocksModel" "s" "[I") (List.mem_of_getElem? (i := 1) rfl)) (fun _ h9 => h9) rfl dX6_waitsAt_2 ?_
  refine lv_iload_n hx hb dX6_waitsAt_5 rfl (lv_at hl 1 rfl) ?_
  refine lv_iconst (v := 5) hx hb dX6_waitsAt_6 (by decide) ?_
  refine va_calli (va_runS (As := [.int (nI u), .int 5]) (rest := [.ref ((g 1)), .int (nI q9)]) ⟨hx, hb, hml, hown, hts⟩ (c_X6_of l u 5) (va_cwS 2 hts gX6_waitsAt_X6_of rfl rfl rfl (by decide +kernel) ⟨Nat.le_of_ble_eq_true rfl, Nat.le_of_ble_eq_true rfl⟩) ⟨wU_blind, fun U hU hW => ⟨rfl, trivial⟩⟩ rfl rfl hl.1 rfl (lv_room (Nat.le_of_ble_eq_true rfl)) dX6_waitsAt_7 ⟨Nat.zero_le _, Nat.zero_le _⟩) hS (fun q _ h => h.elim) (fun q h => h.elim) (fun r_1 uu t H_1 locs_1 ht hvm hw hB hz1 hk1 hS => ?_)
  have hP := hP.same hk1
  obtain rfl : r_1 = (nI (14 + 30 * u + 5)) := hw
  refine w_iald hx hb hK hP 1 (by decide) rfl (vp_in_nI (by omega) (by decide)) dX6_waitsAt_10 ?_
  rw [nI_clamp (by omega), md_g5]
  refine lv_icmp_lt (tgt := 16) hx hb dX6_waitsAt_11 (by decide) (fun c_2 => ?_) (fun c_2 => ?_)
  · have n_2 : q9 < L.length := (nI_ltI (a := q9) (b := L.length) (by omega) (by omega)).mp c_2
    refine lv_aload_n hx hb dX6_waitsAt_16 rfl (lv_at hl 0 rfl) ?_
    refine w_get (C := RX6) (T := TX6) (N := 11) (ci := 6) (v := .ref ((g 1))) hx hb hts hin6 hown hK hP 0 (by decide) rfl rfl 1 (by decide) (hts (.fieldLink RX6 7 "MixedBlocksModel" "s" "[I") (List.mem_of_getElem? (i := 1) rfl)) (fun _ h9 => h9) rfl dX6_waitsAt_17 ?_
    refine lv_iload_n hx hb dX6_waitsAt_20 rfl (lv_at hl 1 rfl) ?_
    refine lv_bipush (v := 6) hx hb dX6_waitsAt_21 (by decide) ?_
    refine lv_iload_n hx hb dX6_waitsAt_23 rfl (lv_at hl 2 rfl) ?_
    refine lv_iadd hx hb dX6_waitsAt_24 ?_
    rw [show 6 + (nI q9) = nI (6 + q9) from nI_add 6 q9]
    refine va_calli (va_runS (As := [.int (nI u), .int (nI (6 + q9))]) (rest := [.ref ((g 1))]) ⟨hx, hb, hml, hown, hts⟩ (c_X6_of l u (6 + q9)) (va_cwS 2 hts gX6_waitsAt_X6_of rfl rfl rfl (by decide +kernel) ⟨Nat.le_of_ble_eq_true rfl, Nat.le_of_ble_eq_true rfl⟩) ⟨wU_blind, fun U hU hW => ⟨rfl, trivial⟩⟩ rfl rfl hl.1 rfl (lv_room (Nat.le_of_ble_eq_true rfl)) dX6_waitsAt_25 ⟨Nat.zero_le _, Nat.zero_le _⟩) hS (fun q _ h => h.elim) (fun q h => h.elim) (fun r_3 uu t H_3 locs_3 ht hvm hw hB hz1 hk1 hS => ?_)
    have hP := hP.same hk1
    obtain rfl : r_3 = (nI (14 + 30 * u + (6 + q9))) := hw
    refine w_iald hx hb hK hP 1 (by decide) rfl (vp_in_nI (by omega) (by decide)) dX6_waitsAt_28 ?_
    rw [nI_clamp (by omega), md_gw (k := q9) (by omega)]
    have hwb_4 := hok.2.2 (q9) (by omega)
    rw [hw _ (by omega)]
    refine lv_istore (lv' := [(4, .int (nI (L.getD q9 0))), (0, .ref ((g 0))), (1, .int (nI u)), (2, .int (nI q9)), (3, .int (nI j))]) hx hb dX6_waitsAt_29 hl (by decide) rfl (fun ls hl => ?_)
    refine lv_iload_n hx hb dX6_waitsAt_31 rfl (lv_at hl 4 rfl) ?_
    refine lv_if_ne (tgt := 40) hx hb dX6_waitsAt_32 (by decide) (fun c_5 => ?_) (fun c_5 => ?_)
    · have n_5 : ¬ (j = 0) := fun z => c_5 ((nI_eq (a := j) (b := 0) (by omega) (by omega)).mpr z)
      refine lv_aload_n hx hb dX6_waitsAt_40 rfl (lv_at hl 1 rfl) ?_
      refine lv_iload hx hb dX6_waitsAt_41 (lv_at hl 0 rfl) ?_
      refine va_calli (va_runV (As := [.int (nI (L.getD q9 0))]) (rest := []) ⟨hx, hb, hml, hown, hts⟩ (c_X6_valueOf l E g th aa sv sm tx ln ro ai wr dg nb va se (va_up rv u (rvE li K go tn lo L.length w)) (L.getD q9 0) (by omega) hnb) (cwV 1 hts gX6_waitsAt_X6_valueOf rfl rfl rfl (by decide +kernel) ⟨Nat.le_of_ble_eq_true rfl, Nat.le_of_ble_eq_true rfl⟩) ⟨wS.blind, (w_recv hK hP 0 (by decide) rfl (ci := 6) rfl), fun U hU hW => wS.go hP hK hI hU hW⟩ rfl rfl hl.1 rfl (lv_room (Nat.le_of_ble_eq_true rfl)) dX6_waitsAt_43 ⟨Nat.zero_le _, Nat.zero_le _⟩) hS (fun q _ h => h.elim) (fun q h => h.elim) (fun r_6 uu t H_6 locs_6 ht hvm hw hB hz1 hk1 hS => ?_)
      have hP := hP.same hk1
      obtain rfl : r_6 = (vlM nb va (L.getD q9 0)) := hw
      exact W.iret (v := (vlM nb va (L.getD q9 0))) hx hb hr (fun t ht hW => ⟨⟨_, (), rfl, (by show _ = _; rw [if_neg (by omega), if_neg n_5]), trivial⟩, hS.F ht⟩) hS.2.2 dX6_waitsAt_46
    · have n_5 : j = 0 := (nI_eq (a := j) (b := 0) (by omega) (by omega)).mp c_5
      refine lv_iload hx hb dX6_waitsAt_35 (lv_at hl 0 rfl) ?_
      refine lv_goto (tgt := 46) hx hb dX6_waitsAt_37 (by decide) ?_
      exact W.iret (v := (nI (L.getD q9 0))) hx hb hr (fun t ht hW => ⟨⟨_, (), rfl, (by show _ = _; rw [if_neg (by omega), if_pos n_5]), trivial⟩, hS.F ht⟩) hS.2.2 dX6_waitsAt_46
  · have n_2 : ¬ (q9 < L.length) := fun z => c_2 ((nI_ltI (a := q9) (b := L.length) (by omega) (by omega)).mpr z)
    refine lv_iconst (v := (-1)) hx hb dX6_waitsAt_14 (by decide) ?_
    exact W.iret (v := (-1)) hx hb hr (fun t ht hW => ⟨⟨_, (), rfl, (by show _ = _; rw [if_pos (by omega)]), trivial⟩, hS.F ht⟩) hS.2.2 dX6_waitsAt_15
