/-! the law: isReceiverSo -/
set_option maxHeartbeats 4000000 in
set_option maxRecDepth 100000 in
theorem c_L_isReceiverSo (l : Launch) (hst : l.stackTraces = false) (E : wE) (g : Nat → Nat) (ln : Nat) (bf : Nat → Int32) (z : SS) (ke : Nat) (hs : Nat → SS) {B : Nat} {y : MS} (hz : RZ B z y) (hB9 : B ≤ 100000) {u : Nat} (hu : u < 3) : Met l yL_isReceiverSo wsL_isReceiverSo ({ frames := 9, cells := 753, slots := 4518, locals := 155 }) (va_Pc [.ref ((g 0)), .int (nI u)] (wSx E 94 g (wF 94 g) (MB E g ln bf z ke hs))) (va_Qi (fun (r : Int32) (_ : Unit) => r = nI 1) (fun _ t => MB E g ln bf z ke hs t.heap) (wF 94 g)) 753 4518 (wF 94 g) := by
  refine Met.ofW (cc := cL_isReceiverSo) (maxL := 9) (ret := (some .boolean)) (by decide) rfl ?_
  intro p e s m args below meth c s₁ Bd hml hv
  obtain ⟨rfl, hM, hK, hI, hxe⟩ := hv
  have hx := Bd.exec
  have hb := Bd.bytes
  have hr := Bd.returns
  have hts := atoms_spec (ws := wsL_isReceiverSo) Bd.pre
  have hown : s.vm.findClass RL = some m.cls := findClass_of_methodNamed Bd.named
  have hlocks := Bd.notSynchronized
  have hS : va_S (wF 94 g) s.heap s.heap [] := va_S.rf
  have hl := lv_entry ([.ref ((g 0)), .int (nI u)]) (n := 9) (Nat.le_of_ble_eq_true rfl)
  rw [lg_entry_eq]
  generalize (lg_sl ([.ref ((g 0)), .int (nI u)]) ++ List.replicate (9 - (lg_sl ([.ref ((g 0)), .int (nI u)])).length) Slot.unset).toArray = ls at hl ⊢
  have hl : lv_has ls 9 [(0, .ref ((g 0))), (1, .int (nI u))] := hl
  obtain ⟨hzn, hn2, hn12⟩ := rz_nb hz
  obtain ⟨hMI, G, T, O, hcG, hcT, hcO, hcL, hcB⟩ := rz_MI hz hu
  have hcG : (y.2.2.2 u).2.2.1 = nI G := hcG
  have hcT : (y.2.2.2 u).2.2.2.1 = nI T := hcT
  have hcO : (y.2.2.2 u).2.2.2.2.1 = nI O := hcO
  have hKb : (y.2.2.2 u).2.1 < 2 ^ y.1 := hMI.1
  have hK4 : (y.2.2.2 u).2.1 < 4096 := MI_K hn12 hMI
  have hW24 : (y.2.2.2 u).2.2.2.2.2.length ≤ 24 := hMI.2.2
  have hcL : T + O + (y.2.2.2 u).2.2.2.2.2.length ≤ G := hcL
  have hrk : rkN (y.2.2.2 u).2 ≤ y.1 := rk_le hn12 hMI
  have hrg1 : pc (y.2.2.2 u).2.1 ≤ rkN (y.2.2.2 u).2 := (rk_ge (y.2.2.2 u).2).1
  have hrg2 : rkN (y.2.2.2 u).2 ≤ pc (y.2.2.2 u).2.1 + (y.2.2.2 u).2.2.2.2.2.length := (rk_ge (y.2.2.2 u).2).2
  have hpcn := pc_nb hn12 hKb
  have hp2 : 2 ^ y.1 ≤ 4096 := pow_nb hn12
  refine lv_aload_n hx hb dL_isReceiverSo_0 rfl (lv_at hl 0 rfl) ?_
  refine lv_iconst (v := (nI 0)) hx hb dL_isReceiverSo_1 (by decide) ?_
  refine va_calli (va_runV (As := [.int (nI 0)]) (rest := []) ⟨hx, hb, hml, hown, hts⟩ (n_count0 l hst E g ln bf z ke hs hz) (cwV 1 hts gL_isReceiverSo_X5_count rfl rfl rfl (by decide +kernel) ⟨Nat.le_of_ble_eq_true rfl, Nat.le_of_ble_eq_true rfl⟩) ⟨wSx.blind, (w_recv hK hM.main 0 (by decide) rfl (ci := 5) rfl), fun U hU hW => wSx.go hM hK hI hxe hS (fun q h => h) hU hW⟩ rfl rfl hl.1 rfl (lv_room (Nat.le_of_ble_eq_true rfl)) dL_isReceiverSo_2 ⟨Nat.le_of_ble_eq_true rfl, Nat.le_of_ble_eq_true rfl⟩) hS (fun q _ h => (fun q h => h) q h) (fun q h => h) (fun r_1 uu t H_1 locs_1 ht hvm hw hB hzq hk1 hS => ?_)
  rw [ht] at hB
  have hM := hB
  obtain rfl : r_1 = nI y.1 := hw
  refine lv_istore_n (lv' := [(2, .int (nI y.1)), (0, .ref ((g 0))), (1, .int (nI u))]) hx hb dL_isReceiverSo_5 rfl hl (by decide) rfl (fun ls hl => ?_)
  refine lv_aload_n hx hb dL_isReceiverSo_6 rfl (lv_at hl 1 rfl) ?_
  refine lv_iload_n hx hb dL_isReceiverSo_7 rfl (lv_at hl 2 rfl) ?_
  refine lv_iconst (v := (nI 2)) hx hb dL_isReceiverSo_8 (by decide) ?_
  refine va_calli (va_runV (As := [.int (nI u), .int (nI 2)]) (rest := []) ⟨hx, hb, hml, hown, hts⟩ (n_rec2 l hst E g ln bf z ke hs hz hu) (cwV 2 hts gL_isReceiverSo_X5_receiver rfl rfl rfl (by decide +kernel) ⟨Nat.le_of_ble_eq_true rfl, Nat.le_of_ble_eq_true rfl⟩) ⟨wSx.blind, (w_recv hK hM.main 0 (by decide) rfl (ci := 5) rfl), fun U hU hW => wSx.go hM hK hI hxe hS (fun q h => h) hU hW⟩ rfl rfl hl.1 rfl (lv_room (Nat.le_of_ble_eq_true rfl)) dL_isReceiverSo_9 ⟨Nat.le_of_ble_eq_true rfl, Nat.le_of_ble_eq_true rfl⟩) hS (fun q _ h => (fun q h => h) q h) (fun q h => h) (fun r_2 uu t H_2 locs_2 ht hvm hw hB hzq hk1 hS => ?_)
  rw [ht] at hB
  have hM := hB
  obtain rfl : r_2 = nI ((y.2.2.2 u).2.1) := hw
  refine lv_istore_n (lv' := [(3, .int (nI ((y.2.2.2 u).2.1))), (2, .int (nI y.1)), (0, .ref ((g 0))), (1, .int (nI u))]) hx hb dL_isReceiverSo_12 rfl hl (by decide) rfl (fun ls hl => ?_)
  refine lv_aload_n hx hb dL_isReceiverSo_13 rfl (lv_at hl 2 rfl) ?_
  refine lv_iload_n hx hb dL_isReceiverSo_14 rfl (lv_at hl 3 rfl) ?_
  refine lv_iconst (v := (nI 3)) hx hb dL_isReceiverSo_15 (by decide) ?_
  refine va_calli (va_runV (As := [.int (nI u), .int (nI 3)]) (rest := []) ⟨hx, hb, hml, hown, hts⟩ (n_rec3 l hst E g ln bf z ke hs hz hu) (cwV 2 hts gL_isReceiverSo_X5_receiver rfl rfl rfl (by decide +kernel) ⟨Nat.le_of_ble_eq_true rfl, Nat.le_of_ble_eq_true rfl⟩) ⟨wSx.blind, (w_recv hK hM.main 0 (by decide) rfl (ci := 5) rfl), fun U hU hW => wSx.go hM hK hI hxe hS (fun q h => h) hU hW⟩ rfl rfl hl.1 rfl (lv_room (Nat.le_of_ble_eq_true rfl)) dL_isReceiverSo_16 ⟨Nat.le_of_ble_eq_true rfl, Nat.le_of_ble_eq_true rfl⟩) hS (fun q _ h => (fun q h => h) q h) (fun q h => h) (fun r_3 uu t H_3 locs_3 ht hvm hw hB hzq hk1 hS => ?_)
  rw [ht] at hB
  have hM := hB
  obtain rfl : r_3 = nI ((y.2.2.2 u).2.2.2.2.2.length) := hw
  refine lv_istore (lv' := [(4, .int (nI ((y.2.2.2 u).2.2.2.2.2.length))), (3, .int (nI ((y.2.2.2 u).2.1))), (2, .int (nI y.1)), (0, .ref ((g 0))), (1, .int (nI u))]) hx hb dL_isReceiverSo_19 hl (by decide) rfl (fun ls hl => ?_)
  refine lv_aload_n hx hb dL_isReceiverSo_21 rfl (lv_at hl 3 rfl) ?_
  refine lv_iload_n hx hb dL_isReceiverSo_22 rfl (lv_at hl 4 rfl) ?_
  refine lv_bipush (v := (nI 8)) hx hb dL_isReceiverSo_23 (by decide) ?_
  refine va_calli (va_runV (As := [.int (nI u), .int (nI 8)]) (rest := []) ⟨hx, hb, hml, hown, hts⟩ (n_rec8 l hst E g ln bf z ke hs hz hu) (cwV 2 hts gL_isReceiverSo_X5_receiver rfl rfl rfl (by decide +kernel) ⟨Nat.le_of_ble_eq_true rfl, Nat.le_of_ble_eq_true rfl⟩) ⟨wSx.blind, (w_recv hK hM.main 0 (by decide) rfl (ci := 5) rfl), fun U hU hW => wSx.go hM hK hI hxe hS (fun q h => h) hU hW⟩ rfl rfl hl.1 rfl (lv_room (Nat.le_of_ble_eq_true rfl)) dL_isReceiverSo_25 ⟨Nat.le_of_ble_eq_true rfl, Nat.le_of_ble_eq_true rfl⟩) hS (fun q _ h => (fun q h => h) q h) (fun q h => h) (fun r_4 uu t H_4 locs_4 ht hvm hw hB hzq hk1 hS => ?_)
  rw [ht] at hB
  have hM := hB
  obtain rfl : r_4 = nI (rkN (y.2.2.2 u).2) := hw
  refine lv_istore (lv' := [(5, .int (nI (rkN (y.2.2.2 u).2))), (4, .int (nI ((y.2.2.2 u).2.2.2.2.2.length))), (3, .int (nI ((y.2.2.2 u).2.1))), (2, .int (nI y.1)), (0, .ref ((g 0))), (1, .int (nI u))]) hx hb dL_isReceiverSo_28 hl (by decide) rfl (fun ls hl => ?_)
  refine lv_aload_n hx hb dL_isReceiverSo_30 rfl (lv_at hl 4 rfl) ?_
  refine lv_iload_n hx hb dL_isReceiverSo_31 rfl (lv_at hl 5 rfl) ?_
  refine lv_iconst (v := (nI 1)) hx hb dL_isReceiverSo_32 (by decide) ?_
  refine va_calli (va_runV (As := [.int (nI u), .int (nI 1)]) (rest := []) ⟨hx, hb, hml, hown, hts⟩ (n_rec1 l hst E g ln bf z ke hs hz hu) (cwV 2 hts gL_isReceiverSo_X5_receiver rfl rfl rfl (by decide +kernel) ⟨Nat.le_of_ble_eq_true rfl, Nat.le_of_ble_eq_true rfl⟩) ⟨wSx.blind, (w_recv hK hM.main 0 (by decide) rfl (ci := 5) rfl), fun U hU hW => wSx.go hM hK hI hxe hS (fun q h => h) hU hW⟩ rfl rfl hl.1 rfl (lv_room (Nat.le_of_ble_eq_true rfl)) dL_isReceiverSo_33 ⟨Nat.le_of_ble_eq_true rfl, Nat.le_of_ble_eq_true rfl⟩) hS (fun q _ h => (fun q h => h) q h) (fun q h => h) (fun r_5 uu t H_5 locs_5 ht hvm hw hB hzq hk1 hS => ?_)
  rw [ht] at hB
  have hM := hB
  obtain rfl : r_5 = nI (pc ((y.2.2.2 u).2.1)) := hw
  refine lv_iload_n hx hb dL_isReceiverSo_36 rfl (lv_at hl 2 rfl) ?_
  refine va_calli (va_runS (As := [.int (nI ((y.2.2.2 u).2.1))]) (rest := [.int (nI (pc ((y.2.2.2 u).2.1)))]) ⟨hx, hb, hml, hown, hts⟩ (c_L_bits l ((y.2.2.2 u).2.1) hK4) (va_cwS 1 hts gL_isReceiverSo_L_bits rfl rfl rfl (by decide +kernel) ⟨Nat.le_of_ble_eq_true rfl, Nat.le_of_ble_eq_true rfl⟩) ⟨wU_blind, fun U hU hW => ⟨rfl, trivial⟩⟩ rfl rfl hl.1 rfl (lv_room (Nat.le_of_ble_eq_true rfl)) dL_isReceiverSo_37 ⟨Nat.le_of_ble_eq_true rfl, Nat.le_of_ble_eq_true rfl⟩) hS (fun q _ h => (fun q h => h.elim) q h) (fun q h => h.elim) (fun r_6 uu t H_6 locs_6 ht hvm hw hB hzq hk1 hS => ?_)
  have hM := hM.keep (fun q hq => hk1 q hq (fun z9 => z9))
  obtain rfl : r_6 = nI (pc ((y.2.2.2 u).2.1)) := hw
  refine lv_icmp_ne (tgt := 168) hx hb dL_isReceiverSo_40 (by decide) (fun c_7 => ?_) (fun c_7 => ?_)
  · exact absurd rfl c_7
  · skip
    refine lv_aload_n hx hb dL_isReceiverSo_43 rfl (lv_at hl 4 rfl) ?_
    refine lv_iload_n hx hb dL_isReceiverSo_44 rfl (lv_at hl 5 rfl) ?_
    refine lv_bipush (v := (nI 7)) hx hb dL_isReceiverSo_45 (by decide) ?_
    refine va_calli (va_runV (As := [.int (nI u), .int (nI 7)]) (rest := []) ⟨hx, hb, hml, hown, hts⟩ (n_rec7 l hst E g ln bf z ke hs hz hu) (cwV 2 hts gL_isReceiverSo_X5_receiver rfl rfl rfl (by decide +kernel) ⟨Nat.le_of_ble_eq_true rfl, Nat.le_of_ble_eq_true rfl⟩) ⟨wSx.blind, (w_recv hK hM.main 0 (by decide) rfl (ci := 5) rfl), fun U hU hW => wSx.go hM hK hI hxe hS (fun q h => h) hU hW⟩ rfl rfl hl.1 rfl (lv_room (Nat.le_of_ble_eq_true rfl)) dL_isReceiverSo_47 ⟨Nat.le_of_ble_eq_true rfl, Nat.le_of_ble_eq_true rfl⟩) hS (fun q _ h => (fun q h => h) q h) (fun q h => h) (fun r_8 uu t H_8 locs_8 ht hvm hw hB hzq hk1 hS => ?_)
    rw [ht] at hB
    have hM := hB
    obtain rfl : r_8 = (bI (isDM y.1 (y.2.2.2 u).2)) := hw
    refine lv_iconst (v := (nI 1)) hx hb dL_isReceiverSo_50 (by decide) ?_
    refine lv_beq hx hb dL_isReceiverSo_51 dL_isReceiverSo_54 dL_isReceiverSo_55 dL_isReceiverSo_58 ?_
    refine lv_iload_n hx hb dL_isReceiverSo_59 rfl (lv_at hl 2 rfl) ?_
    refine va_calli (va_runS (As := [.int (nI ((y.2.2.2 u).2.1))]) (rest := [.int ((bI (decide ((bI (isDM y.1 (y.2.2.2 u).2)) = nI 1))))]) ⟨hx, hb, hml, hown, hts⟩ (c_L_bits l ((y.2.2.2 u).2.1) hK4) (va_cwS 1 hts gL_isReceiverSo_L_bits rfl rfl rfl (by decide +kernel) ⟨Nat.le_of_ble_eq_true rfl, Nat.le_of_ble_eq_true rfl⟩) ⟨wU_blind, fun U hU hW => ⟨rfl, trivial⟩⟩ rfl rfl hl.1 rfl (lv_room (Nat.le_of_ble_eq_true rfl)) dL_isReceiverSo_60 ⟨Nat.le_of_ble_eq_true rfl, Nat.le_of_ble_eq_true rfl⟩) hS (fun q _ h => (fun q h => h.elim) q h) (fun q h => h.elim) (fun r_9 uu t H_9 locs_9 ht hvm hw hB hzq hk1 hS => ?_)
    have hM := hM.keep (fun q hq => hk1 q hq (fun z9 => z9))
    obtain rfl : r_9 = nI (pc ((y.2.2.2 u).2.1)) := hw
    refine lv_iload_n hx hb dL_isReceiverSo_63 rfl (lv_at hl 3 rfl) ?_
    refine lv_beq hx hb dL_isReceiverSo_64 dL_isReceiverSo_67 dL_isReceiverSo_68 dL_isReceiverSo_71 ?_
    refine lv_icmp_ne (tgt := 168) hx hb dL_isReceiverSo_72 (by decide) (fun c_10 => ?_) (fun c_10 => ?_)
    · exact absurd (dn_eq hn12 hKb) c_10
    · skip
      refine lv_iload hx hb dL_isReceiverSo_75 (lv_at hl 1 rfl) ?_
      refine lv_bipush (v := (nI 24)) hx hb dL_isReceiverSo_77 (by decide) ?_
      refine lv_icmp_gt (tgt := 168) hx hb dL_isReceiverSo_79 (by decide) (fun c_11 => ?_) (fun c_11 => ?_)
      · exfalso
        have f_c_11 : 24 < ((y.2.2.2 u).2.2.2.2.2.length) := (nI_ltI (a := 24) (b := ((y.2.2.2 u).2.2.2.2.2.length)) (by omega) (by omega)).mp c_11
        omega
      · skip
        refine lv_iload hx hb dL_isReceiverSo_82 (lv_at hl 0 rfl) ?_
        refine lv_iload_n hx hb dL_isReceiverSo_84 rfl (lv_at hl 2 rfl) ?_
        refine va_calli (va_runS (As := [.int (nI ((y.2.2.2 u).2.1))]) (rest := [.int (nI (rkN (y.2.2.2 u).2))]) ⟨hx, hb, hml, hown, hts⟩ (c_L_bits l ((y.2.2.2 u).2.1) hK4) (va_cwS 1 hts gL_isReceiverSo_L_bits rfl rfl rfl (by decide +kernel) ⟨Nat.le_of_ble_eq_true rfl, Nat.le_of_ble_eq_true rfl⟩) ⟨wU_blind, fun U hU hW => ⟨rfl, trivial⟩⟩ rfl rfl hl.1 rfl (lv_room (Nat.le_of_ble_eq_true rfl)) dL_isReceiverSo_85 ⟨Nat.le_of_ble_eq_true rfl, Nat.le_of_ble_eq_true rfl⟩) hS (fun q _ h => (fun q h => h.elim) q h) (fun q h => h.elim) (fun r_12 uu t H_12 locs_12 ht hvm hw hB hzq hk1 hS => ?_)
        have hM := hM.keep (fun q hq => hk1 q hq (fun z9 => z9))
        obtain rfl : r_12 = nI (pc ((y.2.2.2 u).2.1)) := hw
        refine lv_icmp_lt (tgt := 168) hx hb dL_isReceiverSo_88 (by decide) (fun c_13 => ?_) (fun c_13 => ?_)
        · exfalso
          have f_c_13 : (rkN (y.2.2.2 u).2) < (pc ((y.2.2.2 u).2.1)) := (nI_ltI (a := (rkN (y.2.2.2 u).2)) (b := (pc ((y.2.2.2 u).2.1))) (by omega) (by omega)).mp c_13
          omega
        · skip
          refine lv_iload hx hb dL_isReceiverSo_91 (lv_at hl 0 rfl) ?_
          refine lv_iload_n hx hb dL_isReceiverSo_93 rfl (lv_at hl 3 rfl) ?_
          refine lv_icmp_gt (tgt := 168) hx hb dL_isReceiverSo_94 (by decide) (fun c_14 => ?_) (fun c_14 => ?_)
          · exfalso
            have f_c_14 : y.1 < (rkN (y.2.2.2 u).2) := (nI_ltI (a := y.1) (b := (rkN (y.2.2.2 u).2)) (by omega) (by omega)).mp c_14
            omega
          · skip
            refine lv_iload hx hb dL_isReceiverSo_97 (lv_at hl 0 rfl) ?_
            refine lv_iload_n hx hb dL_isReceiverSo_99 rfl (lv_at hl 2 rfl) ?_
            refine va_calli (va_runS (As := [.int (nI ((y.2.2.2 u).2.1))]) (rest := [.int (nI (rkN (y.2.2.2 u).2))]) ⟨hx, hb, hml, hown, hts⟩ (c_L_bits l ((y.2.2.2 u).2.1) hK4) (va_cwS 1 hts gL_isReceiverSo_L_bits rfl rfl rfl (by decide +kernel) ⟨Nat.le_of_ble_eq_true rfl, Nat.le_of_ble_eq_true rfl⟩) ⟨wU_blind, fun U hU hW => ⟨rfl, trivial⟩⟩ rfl rfl hl.1 rfl (lv_room (Nat.le_of_ble_eq_true rfl)) dL_isReceiverSo_100 ⟨Nat.le_of_ble_eq_true rfl, Nat.le_of_ble_eq_true rfl⟩) hS (fun q _ h => (fun q h => h.elim) q h) (fun q h => h.elim) (fun r_15 uu t H_15 locs_15 ht hvm hw hB hzq hk1 hS => ?_)
            have hM := hM.keep (fun q hq => hk1 q hq (fun z9 => z9))
            obtain rfl : r_15 = nI (pc ((y.2.2.2 u).2.1)) := hw
            refine lv_iload hx hb dL_isReceiverSo_103 (lv_at hl 1 rfl) ?_
            refine lv_iadd hx hb dL_isReceiverSo_105 ?_
            rw [show nI (pc ((y.2.2.2 u).2.1)) + nI ((y.2.2.2 u).2.2.2.2.2.length) = nI ((pc ((y.2.2.2 u).2.1)) + ((y.2.2.2 u).2.2.2.2.2.length)) from nI_add _ _]
            refine lv_icmp_gt (tgt := 168) hx hb dL_isReceiverSo_106 (by decide) (fun c_16 => ?_) (fun c_16 => ?_)
            · exfalso
              have f_c_16 : ((pc ((y.2.2.2 u).2.1)) + ((y.2.2.2 u).2.2.2.2.2.length)) < (rkN (y.2.2.2 u).2) := (nI_ltI (a := ((pc ((y.2.2.2 u).2.1)) + ((y.2.2.2 u).2.2.2.2.2.length))) (b := (rkN (y.2.2.2 u).2)) (by omega) (by omega)).mp c_16
              omega
            · skip
              refine lv_aload_n hx hb dL_isReceiverSo_109 rfl (lv_at hl 4 rfl) ?_
              refine lv_iload_n hx hb dL_isReceiverSo_110 rfl (lv_at hl 5 rfl) ?_
              refine lv_iconst (v := (nI 5)) hx hb dL_isReceiverSo_111 (by decide) ?_
              refine va_calli (va_runV (As := [.int (nI u), .int (nI 5)]) (rest := []) ⟨hx, hb, hml, hown, hts⟩ (n_rec5 l hst E g ln bf z ke hs hz hu) (cwV 2 hts gL_isReceiverSo_X5_receiver rfl rfl rfl (by decide +kernel) ⟨Nat.le_of_ble_eq_true rfl, Nat.le_of_ble_eq_true rfl⟩) ⟨wSx.blind, (w_recv hK hM.main 0 (by decide) rfl (ci := 5) rfl), fun U hU hW => wSx.go hM hK hI hxe hS (fun q h => h) hU hW⟩ rfl rfl hl.1 rfl (lv_room (Nat.le_of_ble_eq_true rfl)) dL_isReceiverSo_112 ⟨Nat.le_of_ble_eq_true rfl, Nat.le_of_ble_eq_true rfl⟩) hS (fun q _ h => (fun q h => h) q h) (fun q h => h) (fun r_17 uu t H_17 locs_17 ht hvm hw hB hzq hk1 hS => ?_)
              rw [ht] at hB
              have hM := hB
              obtain rfl : r_17 = ((y.2.2.2 u).2.2.2.1) := hw
              rw [hcT]
              refine lv_aload_n hx hb dL_isReceiverSo_115 rfl (lv_at hl 4 rfl) ?_
              refine lv_iload_n hx hb dL_isReceiverSo_116 rfl (lv_at hl 5 rfl) ?_
              refine lv_bipush (v := (nI 6)) hx hb dL_isReceiverSo_117 (by decide) ?_
              refine va_calli (va_runV (As := [.int (nI u), .int (nI 6)]) (rest := [.int (nI T)]) ⟨hx, hb, hml, hown, hts⟩ (n_rec6 l hst E g ln bf z ke hs hz hu) (cwV 2 hts gL_isReceiverSo_X5_receiver rfl rfl rfl (by decide +kernel) ⟨Nat.le_of_ble_eq_true rfl, Nat.le_of_ble_eq_true rfl⟩) ⟨wSx.blind, (w_recv hK hM.main 0 (by decide) rfl (ci := 5) rfl), fun U hU hW => wSx.go hM hK hI hxe hS (fun q h => h) hU hW⟩ rfl rfl hl.1 rfl (lv_room (Nat.le_of_ble_eq_true rfl)) dL_isReceiverSo_119 ⟨Nat.le_of_ble_eq_true rfl, Nat.le_of_ble_eq_true rfl⟩) hS (fun q _ h => (fun q h => h) q h) (fun q h => h) (fun r_18 uu t H_18 locs_18 ht hvm hw hB hzq hk1 hS => ?_)
              rw [ht] at hB
              have hM := hB
              obtain rfl : r_18 = ((y.2.2.2 u).2.2.2.2.1) := hw
              rw [hcO]
              refine lv_iadd hx hb dL_isReceiverSo_122 ?_
              rw [show nI T + nI O = nI (T + O) from nI_add _ _]
              refine lv_aload_n hx hb dL_isReceiverSo_123 rfl (lv_at hl 4 rfl) ?_
              refine lv_iload_n hx hb dL_isReceiverSo_124 rfl (lv_at hl 5 rfl) ?_
              refine lv_iconst (v := (nI 4)) hx hb dL_isReceiverSo_125 (by decide) ?_
              refine va_calli (va_runV (As := [.int (nI u), .int (nI 4)]) (rest := [.int (nI (T + O))]) ⟨hx, hb, hml, hown, hts⟩ (n_rec4 l hst E g ln bf z ke hs hz hu) (cwV 2 hts gL_isReceiverSo_X5_receiver rfl rfl rfl (by decide +kernel) ⟨Nat.le_of_ble_eq_true rfl, Nat.le_of_ble_eq_true rfl⟩) ⟨wSx.blind, (w_recv hK hM.main 0 (by decide) rfl (ci := 5) rfl), fun U hU hW => wSx.go hM hK hI hxe hS (fun q h => h) hU hW⟩ rfl rfl hl.1 rfl (lv_room (Nat.le_of_ble_eq_true rfl)) dL_isReceiverSo_126 ⟨Nat.le_of_ble_eq_true rfl, Nat.le_of_ble_eq_true rfl⟩) hS (fun q _ h => (fun q h => h) q h) (fun q h => h) (fun r_19 uu t H_19 locs_19 ht hvm hw hB hzq hk1 hS => ?_)
              rw [ht] at hB
              have hM := hB
              obtain rfl : r_19 = ((y.2.2.2 u).2.2.1) := hw
              rw [hcG]
              refine lv_icmp_gt (tgt := 168) hx hb dL_isReceiverSo_129 (by decide) (fun c_20 => ?_) (fun c_20 => ?_)
              · exfalso
                have f_c_20 : G < (T + O) := (nI_ltI (a := G) (b := (T + O)) (by omega) (by omega)).mp c_20
                omega
              · skip
                refine lv_aload_n hx hb dL_isReceiverSo_132 rfl (lv_at hl 4 rfl) ?_
                refine lv_iload_n hx hb dL_isReceiverSo_133 rfl (lv_at hl 5 rfl) ?_
                refine lv_iload hx hb dL_isReceiverSo_134 (lv_at hl 1 rfl) ?_
                refine lv_iconst (v := (nI 0)) hx hb dL_isReceiverSo_136 (by decide) ?_
                refine va_calli (va_runV (As := [.int (nI u), .int (nI ((y.2.2.2 u).2.2.2.2.2.length)), .int (nI 0)]) (rest := []) ⟨hx, hb, hml, hown, hts⟩ (n_wait0 l hst E g ln bf z ke hs hz hu (q := (y.2.2.2 u).2.2.2.2.2.length) (by omega)) (cwV 3 hts gL_isReceiverSo_X5_waiting rfl rfl rfl (by decide +kernel) ⟨Nat.le_of_ble_eq_true rfl, Nat.le_of_ble_eq_true rfl⟩) ⟨wSx.blind, (w_recv hK hM.main 0 (by decide) rfl (ci := 5) rfl), fun U hU hW => wSx.go hM hK hI hxe hS (fun q h => h) hU hW⟩ rfl rfl hl.1 rfl (lv_room (Nat.le_of_ble_eq_true rfl)) dL_isReceiverSo_137 ⟨Nat.le_of_ble_eq_true rfl, Nat.le_of_ble_eq_true rfl⟩) hS (fun q _ h => (fun q h => h) q h) (fun q h => h) (fun r_21 uu t H_21 locs_21 ht hvm hw hB hzq hk1 hS => ?_)
                rw [ht] at hB
                have hM := hB
                obtain rfl : r_21 = (if (y.2.2.2 u).2.2.2.2.2.length ≤ (y.2.2.2 u).2.2.2.2.2.length then -1 else nI ((y.2.2.2 u).2.2.2.2.2.getD (y.2.2.2 u).2.2.2.2.2.length 0)) := hw
                rw [if_pos (Nat.le_refl _)]
                refine lv_iconst (v := (-1)) hx hb dL_isReceiverSo_140 (by decide) ?_
                refine lv_icmp_ne (tgt := 168) hx hb dL_isReceiverSo_141 (by decide) (fun c_22 => ?_) (fun c_22 => ?_)
                · exact absurd rfl c_22
                · skip
                  refine lv_aload_n hx hb dL_isReceiverSo_144 rfl (lv_at hl 4 rfl) ?_
                  refine lv_iload_n hx hb dL_isReceiverSo_145 rfl (lv_at hl 5 rfl) ?_
                  refine va_calld (va_runV (As := [.int (nI u)]) (rest := []) ⟨hx, hb, hml, hown, hts⟩ (n_use l hst E g ln bf z ke hs hz hu) (cwV 1 hts gL_isReceiverSo_X5_use rfl rfl rfl (by decide +kernel) ⟨Nat.le_of_ble_eq_true rfl, Nat.le_of_ble_eq_true rfl⟩) ⟨wSx.blind, (w_recv hK hM.main 0 (by decide) rfl (ci := 5) rfl), fun U hU hW => wSx.go hM hK hI hxe hS (fun q h => h) hU hW⟩ rfl rfl hl.1 rfl (lv_room (Nat.le_of_ble_eq_true rfl)) dL_isReceiverSo_146 ⟨Nat.le_of_ble_eq_true rfl, Nat.le_of_ble_eq_true rfl⟩) hS (fun q _ h => (fun q h => h) q h) (fun q h => h) (fun r_23 uu t H_23 locs_23 ht hvm hw hB hzq hk1 hS => ?_)
                  rw [ht] at hB
                  have hM := hB
                  obtain rfl : r_23 = (shF (y.2.2.2 u).2.2.1 (y.2.2.2 u).2.2.2.1 (y.2.2.2 u).2.2.2.2.1) := hw
                  refine lv_dconst0 hx hb dL_isReceiverSo_149 ?_
                  refine lv_dcmp hx hb dL_isReceiverSo_150 ?_
                  refine lv_if_lt (tgt := 168) hx hb dL_isReceiverSo_151 (by decide) (fun c_24 => ?_) (fun c_24 => ?_)
                  · exact absurd c_24 (use_ge hcG hcT hcO (by omega) (by omega))
                  · skip
                    refine lv_aload_n hx hb dL_isReceiverSo_154 rfl (lv_at hl 4 rfl) ?_
                    refine lv_iload_n hx hb dL_isReceiverSo_155 rfl (lv_at hl 5 rfl) ?_
                    refine va_calld (va_runV (As := [.int (nI u)]) (rest := []) ⟨hx, hb, hml, hown, hts⟩ (n_use l hst E g ln bf z ke hs hz hu) (cwV 1 hts gL_isReceiverSo_X5_use rfl rfl rfl (by decide +kernel) ⟨Nat.le_of_ble_eq_true rfl, Nat.le_of_ble_eq_true rfl⟩) ⟨wSx.blind, (w_recv hK hM.main 0 (by decide) rfl (ci := 5) rfl), fun U hU hW => wSx.go hM hK hI hxe hS (fun q h => h) hU hW⟩ rfl rfl hl.1 rfl (lv_room (Nat.le_of_ble_eq_true rfl)) dL_isReceiverSo_156 ⟨Nat.le_of_ble_eq_true rfl, Nat.le_of_ble_eq_true rfl⟩) hS (fun q _ h => (fun q h => h) q h) (fun q h => h) (fun r_25 uu t H_25 locs_25 ht hvm hw hB hzq hk1 hS => ?_)
                    rw [ht] at hB
                    have hM := hB
                    obtain rfl : r_25 = (shF (y.2.2.2 u).2.2.1 (y.2.2.2 u).2.2.2.1 (y.2.2.2 u).2.2.2.2.1) := hw
                    refine lv_dconst1 hx hb dL_isReceiverSo_159 ?_
                    refine lv_dcmp hx hb dL_isReceiverSo_160 ?_
                    refine lv_if_gt (tgt := 168) hx hb dL_isReceiverSo_161 (by decide) (fun c_26 => ?_) (fun c_26 => ?_)
                    · exact absurd c_26 (use_le hcG hcT hcO (by omega) (by omega))
                    · skip
                      refine lv_iconst (v := (nI 1)) hx hb dL_isReceiverSo_164 (by decide) ?_
                      refine lv_goto (tgt := 169) hx hb dL_isReceiverSo_165 (by decide) ?_
                      refine lv_istore (lv' := [(6, .int (nI 1)), (5, .int (nI (rkN (y.2.2.2 u).2))), (4, .int (nI ((y.2.2.2 u).2.2.2.2.2.length))), (3, .int (nI ((y.2.2.2 u).2.1))), (2, .int (nI y.1)), (0, .ref ((g 0))), (1, .int (nI u))]) hx hb dL_isReceiverSo_169 hl (by decide) rfl (fun ls hl => ?_)
                      refine lv_iconst (v := (nI 0)) hx hb dL_isReceiverSo_171 (by decide) ?_
                      refine lv_istore (lv' := [(7, .int (nI 0)), (6, .int (nI 1)), (5, .int (nI (rkN (y.2.2.2 u).2))), (4, .int (nI ((y.2.2.2 u).2.2.2.2.2.length))), (3, .int (nI ((y.2.2.2 u).2.1))), (2, .int (nI y.1)), (0, .ref ((g 0))), (1, .int (nI u))]) hx hb dL_isReceiverSo_172 hl (by decide) rfl (fun ls hl => ?_)
                      have L174 : ∀ (n : Nat) (b : Nat) (H : Heap) (locs : List Loc) (ls : Array Slot) (cells slots : Nat), b + n = y.1 → cells + n * 3 ≤ 57 → slots + n * 18 ≤ 342 → MB E g ln bf z ke hs H → va_S (wF 94 g) s.heap H locs → lv_has ls 9 [(7, .int (nI b)), (6, .int (nI 1)), (5, .int (nI (rkN (y.2.2.2 u).2))), (4, .int (nI ((y.2.2.2 u).2.2.2.2.2.length))), (3, .int (nI ((y.2.2.2 u).2.1))), (2, .int (nI y.1)), (1, .int (nI u)), (0, .ref ((g 0)))] → W p l e (headSpec wsL_isReceiverSo ({ frames := 9, cells := 753, slots := 4518, locals := 155 })).room s m ([.ref ((g 0)), .int (nI u)] : List Value).toArray below meth c H locs (cells) (slots) (MQ below (va_Qi (fun (r : Int32) (_ : Unit) => r = nI 1) (fun _ t => MB E g ln bf z ke hs t.heap) (wF 94 g)) ([.ref ((g 0)), .int (nI u)] : List Value).toArray s 753 4518 (wF 94 g)) (F0 m 174 ls []) := by
                        intro n
                        induction n with
                        | zero =>
                          intro b H locs ls cells slots hbn hc9 hs9 hM hS hl
                          have hbn2 : b = y.1 := by omega
                          refine lv_iload hx hb dL_isReceiverSo_174 (lv_at hl 0 rfl) ?_
                          refine lv_iload_n hx hb dL_isReceiverSo_176 rfl (lv_at hl 5 rfl) ?_
                          refine lv_icmp_ge (tgt := 228) hx hb dL_isReceiverSo_177 (by decide) (fun c_27 => ?_) (fun c_27 => ?_)
                          · skip
                            refine lv_iconst (v := (nI 0)) hx hb dL_isReceiverSo_228 (by decide) ?_
                            refine lv_istore (lv' := [(7, .int (nI 0)), (6, .int (nI 1)), (5, .int (nI (rkN (y.2.2.2 u).2))), (4, .int (nI ((y.2.2.2 u).2.2.2.2.2.length))), (3, .int (nI ((y.2.2.2 u).2.1))), (2, .int (nI y.1)), (1, .int (nI u)), (0, .ref ((g 0)))]) hx hb dL_isReceiverSo_229 hl (by decide) rfl (fun ls hl => ?_)
                            have L231 : ∀ (n : Nat) (k : Nat) (H : Heap) (locs : List Loc) (ls : Array Slot) (cells slots : Nat), k + n = (y.2.2.2 u).2.2.2.2.2.length → cells + n * 29 ≤ 753 → slots + n * 174 ≤ 4518 → MB E g ln bf z ke hs H → va_S (wF 94 g) s.heap H locs → lv_has ls 9 [(7, .int (nI k)), (6, .int (nI 1)), (5, .int (nI (rkN (y.2.2.2 u).2))), (4, .int (nI ((y.2.2.2 u).2.2.2.2.2.length))), (3, .int (nI ((y.2.2.2 u).2.1))), (2, .int (nI y.1)), (1, .int (nI u)), (0, .ref ((g 0)))] → W p l e (headSpec wsL_isReceiverSo ({ frames := 9, cells := 753, slots := 4518, locals := 155 })).room s m ([.ref ((g 0)), .int (nI u)] : List Value).toArray below meth c H locs (cells) (slots) (MQ below (va_Qi (fun (r : Int32) (_ : Unit) => r = nI 1) (fun _ t => MB E g ln bf z ke hs t.heap) (wF 94 g)) ([.ref ((g 0)), .int (nI u)] : List Value).toArray s 753 4518 (wF 94 g)) (F0 m 231 ls []) := by
                              intro n
                              induction n with
                              | zero =>
                                intro k H locs ls cells slots hkn hc9 hs9 hM hS hl
                                have hbn3 : k = (y.2.2.2 u).2.2.2.2.2.length := by omega
                                refine lv_iload hx hb dL_isReceiverSo_231 (lv_at hl 0 rfl) ?_
                                refine lv_iload hx hb dL_isReceiverSo_233 (lv_at hl 3 rfl) ?_
                                refine lv_icmp_ge (tgt := 307) hx hb dL_isReceiverSo_235 (by decide) (fun c_28 => ?_) (fun c_28 => ?_)
                                · skip
                                  refine lv_iload hx hb dL_isReceiverSo_307 (lv_at hl 1 rfl) ?_
                                  refine W.widen (k := 753) (n := 4518) (show cells ≤ 753 by omega) (show slots ≤ 4518 by omega) ?_
                                  exact W.zret (v := (nI 1)) hx hb hr rfl (fun t ht hW => ⟨⟨_, (), rfl, rfl, (by show MB E g ln bf z ke hs t.heap; rw [ht]; exact hM)⟩, hS.F ht⟩) hS.2.2 dL_isReceiverSo_309
                                · exfalso
                                  have f_c_28 : ¬ ((y.2.2.2 u).2.2.2.2.2.length) ≤ k := fun z9 => c_28 ((nI_leI (a := ((y.2.2.2 u).2.2.2.2.2.length)) (b := k) (by omega) (by omega)).mpr z9)
                                  omega
                              | succ n ih =>
                                intro k H locs ls cells slots hkn hc9 hs9 hM hS hl
                                refine lv_iload hx hb dL_isReceiverSo_231 (lv_at hl 0 rfl) ?_
                                refine lv_iload hx hb dL_isReceiverSo_233 (lv_at hl 3 rfl) ?_
                                refine lv_icmp_ge (tgt := 307) hx hb dL_isReceiverSo_235 (by decide) (fun c_29 => ?_) (fun c_29 => ?_)
                                · exfalso
                                  have f_c_29 : ((y.2.2.2 u).2.2.2.2.2.length) ≤ k := (nI_leI (a := ((y.2.2.2 u).2.2.2.2.2.length)) (b := k) (by omega) (by omega)).mp c_29
                                  omega
                                · skip
                                  refine lv_aload_n hx hb dL_isReceiverSo_238 rfl (lv_at hl 7 rfl) ?_
                                  refine lv_iload_n hx hb dL_isReceiverSo_239 rfl (lv_at hl 6 rfl) ?_
                                  refine lv_iload hx hb dL_isReceiverSo_240 (lv_at hl 0 rfl) ?_
                                  refine lv_iconst (v := (nI 0)) hx hb dL_isReceiverSo_242 (by decide) ?_
                                  refine va_calli (va_runV (As := [.int (nI u), .int (nI k), .int (nI 0)]) (rest := []) ⟨hx, hb, hml, hown, hts⟩ (n_wait0 l hst E g ln bf z ke hs hz hu (q := k) (by omega)) (cwV 3 hts gL_isReceiverSo_X5_waiting rfl rfl rfl (by decide +kernel) ⟨Nat.le_of_ble_eq_true rfl, Nat.le_of_ble_eq_true rfl⟩) ⟨wSx.blind, (w_recv hK hM.main 0 (by decide) rfl (ci := 5) rfl), fun U hU hW => wSx.go hM hK hI hxe hS (fun q h => h) hU hW⟩ rfl rfl hl.1 rfl (lv_room (Nat.le_of_ble_eq_true rfl)) dL_isReceiverSo_243 ⟨(show cells + 2 ≤ 753 by omega), (show slots + 12 ≤ 4518 by omega)⟩) hS (fun q _ h => (fun q h => h) q h) (fun q h => h) (fun r_30 uu t H_30 locs_30 ht hvm hw hB hzq hk1 hS => ?_)
                                  rw [ht] at hB
                                  have hM := hB
                                  obtain rfl : r_30 = (if (y.2.2.2 u).2.2.2.2.2.length ≤ k then -1 else nI ((y.2.2.2 u).2.2.2.2.2.getD k 0)) := hw
                                  rw [if_neg (show ¬ (y.2.2.2 u).2.2.2.2.2.length ≤ k by omega)]
                                  have hw9 := hMI.2.1 _ (getD_mem (W := (y.2.2.2 u).2.2.2.2.2) (p := k) (by omega))
                                  have hw2 : ((y.2.2.2 u).2.2.2.2.2.getD k 0) < 2 ^ y.1 := hw9.1
                                  have hw3 : ((y.2.2.2 u).2.2.2.2.2.getD k 0) &&& (y.2.2.2 u).2.1 = 0 := hw9.2.1
                                  have hw4 : 2 ≤ pc ((y.2.2.2 u).2.2.2.2.2.getD k 0) := hw9.2.2
                                  have hw5 := pc_le ((y.2.2.2 u).2.2.2.2.2.getD k 0)
                                  refine lv_istore (lv' := [(8, .int (nI ((y.2.2.2 u).2.2.2.2.2.getD k 0))), (7, .int (nI k)), (6, .int (nI 1)), (5, .int (nI (rkN (y.2.2.2 u).2))), (4, .int (nI ((y.2.2.2 u).2.2.2.2.2.length))), (3, .int (nI ((y.2.2.2 u).2.1))), (2, .int (nI y.1)), (1, .int (nI u)), (0, .ref ((g 0)))]) hx hb dL_isReceiverSo_246 hl (by decide) rfl (fun ls hl => ?_)
                                  refine lv_iload hx hb dL_isReceiverSo_248 (lv_at hl 2 rfl) ?_
                                  refine lv_if_eq (tgt := 298) hx hb dL_isReceiverSo_250 (by decide) (fun c_31 => ?_) (fun c_31 => ?_)
                                  · exact absurd c_31 (by decide)
                                  · skip
                                    refine lv_iload hx hb dL_isReceiverSo_253 (lv_at hl 0 rfl) ?_
                                    refine va_calli (va_runS (As := [.int (nI ((y.2.2.2 u).2.2.2.2.2.getD k 0))]) (rest := []) ⟨hx, hb, hml, hown, hts⟩ (c_L_bits l ((y.2.2.2 u).2.2.2.2.2.getD k 0) (by omega)) (va_cwS 1 hts gL_isReceiverSo_L_bits rfl rfl rfl (by decide +kernel) ⟨Nat.le_of_ble_eq_true rfl, Nat.le_of_ble_eq_true rfl⟩) ⟨wU_blind, fun U hU hW => ⟨rfl, trivial⟩⟩ rfl rfl hl.1 rfl (lv_room (Nat.le_of_ble_eq_true rfl)) dL_isReceiverSo_255 ⟨(show cells + 2 + 0 ≤ 753 by omega), (show slots + 12 + 0 ≤ 4518 by omega)⟩) hS (fun q _ h => (fun q h => h.elim) q h) (fun q h => h.elim) (fun r_32 uu t H_32 locs_32 ht hvm hw hB hzq hk1 hS => ?_)
                                    have hM := hM.keep (fun q hq => hk1 q hq (fun z9 => z9))
                                    obtain rfl : r_32 = nI (pc ((y.2.2.2 u).2.2.2.2.2.getD k 0)) := hw
                                    refine lv_iconst (v := (nI 1)) hx hb dL_isReceiverSo_258 (by decide) ?_
                                    refine lv_icmp_le (tgt := 298) hx hb dL_isReceiverSo_259 (by decide) (fun c_33 => ?_) (fun c_33 => ?_)
                                    · exfalso
                                      have f_c_33 : (pc ((y.2.2.2 u).2.2.2.2.2.getD k 0)) ≤ 1 := (nI_leI (a := (pc ((y.2.2.2 u).2.2.2.2.2.getD k 0))) (b := 1) (by omega) (by omega)).mp c_33
                                      omega
                                    · skip
                                      refine lv_iload hx hb dL_isReceiverSo_262 (lv_at hl 0 rfl) ?_
                                      refine lv_iload_n hx hb dL_isReceiverSo_264 rfl (lv_at hl 5 rfl) ?_
                                      refine lv_iand hx hb dL_isReceiverSo_265 ?_
                                      rw [show ((nI ((y.2.2.2 u).2.2.2.2.2.getD k 0)) &&& (nI ((y.2.2.2 u).2.1))) = nI 0 from (nI_and _ _).trans (by rw [hw3])]
                                      refine lv_if_ne (tgt := 298) hx hb dL_isReceiverSo_266 (by decide) (fun c_34 => ?_) (fun c_34 => ?_)
                                      · exact absurd (by rfl) c_34
                                      · skip
                                        refine lv_iload hx hb dL_isReceiverSo_269 (lv_at hl 0 rfl) ?_
                                        refine lv_iconst (v := (nI 1)) hx hb dL_isReceiverSo_271 (by decide) ?_
                                        refine lv_iload_n hx hb dL_isReceiverSo_272 rfl (lv_at hl 6 rfl) ?_
                                        refine lv_ishl hx hb dL_isReceiverSo_273 ?_
                                        rw [show ((nI 1) <<< ((nI y.1) &&& 31)) = nI (2 ^ y.1) from shl_one (by omega)]
                                        refine lv_icmp_ge (tgt := 298) hx hb dL_isReceiverSo_274 (by decide) (fun c_35 => ?_) (fun c_35 => ?_)
                                        · exfalso
                                          have f_c_35 : (2 ^ y.1) ≤ ((y.2.2.2 u).2.2.2.2.2.getD k 0) := (nI_leI (a := (2 ^ y.1)) (b := ((y.2.2.2 u).2.2.2.2.2.getD k 0)) (by omega) (by omega)).mp c_35
                                          omega
                                        · skip
                                          refine lv_aload_n hx hb dL_isReceiverSo_277 rfl (lv_at hl 8 rfl) ?_
                                          refine lv_iload_n hx hb dL_isReceiverSo_278 rfl (lv_at hl 7 rfl) ?_
                                          refine lv_iload hx hb dL_isReceiverSo_279 (lv_at hl 1 rfl) ?_
                                          refine lv_iconst (v := (nI 1)) hx hb dL_isReceiverSo_281 (by decide) ?_
                                          refine va_calli (va_runV (As := [.int (nI u), .int (nI k), .int (nI 1)]) (rest := []) ⟨hx, hb, hml, hown, hts⟩ (n_wait1 l hst E g ln bf z ke hs hz hu (q := k) (by omega)) (cwV 3 hts gL_isReceiverSo_X5_waiting rfl rfl rfl (by decide +kernel) ⟨Nat.le_of_ble_eq_true rfl, Nat.le_of_ble_eq_true rfl⟩) ⟨wSx.blind, (w_recv hK hM.main 0 (by decide) rfl (ci := 5) rfl), fun U hU hW => wSx.go hM hK hI hxe hS (fun q h => h) hU hW⟩ rfl rfl hl.1 rfl (lv_room (Nat.le_of_ble_eq_true rfl)) dL_isReceiverSo_282 ⟨(show cells + 2 + 0 + 2 ≤ 753 by omega), (show slots + 12 + 0 + 12 ≤ 4518 by omega)⟩) hS (fun q _ h => (fun q h => h) q h) (fun q h => h) (fun r_36 uu t H_36 locs_36 ht hvm hw hB hzq hk1 hS => ?_)
                                          rw [ht] at hB
                                          have hM := hB
                                          obtain rfl : r_36 = (if (y.2.2.2 u).2.2.2.2.2.length ≤ k then -1 else vlM y.1 y.2.1 ((y.2.2.2 u).2.2.2.2.2.getD k 0)) := hw
                                          rw [if_neg (show ¬ (y.2.2.2 u).2.2.2.2.2.length ≤ k by omega)]
                                          refine lv_aload_n hx hb dL_isReceiverSo_285 rfl (lv_at hl 8 rfl) ?_
                                          refine lv_iload hx hb dL_isReceiverSo_286 (lv_at hl 0 rfl) ?_
                                          refine va_calli (va_runS (As := [.ref ((g 0)), .int (nI ((y.2.2.2 u).2.2.2.2.2.getD k 0))]) (rest := [.int ((vlM y.1 y.2.1 ((y.2.2.2 u).2.2.2.2.2.getD k 0)))]) ⟨hx, hb, hml, hown, hts⟩ (c_L_value l hst E g ln bf z ke hs hz hw2) (va_cwS 2 hts gL_isReceiverSo_L_value rfl rfl rfl (by decide +kernel) ⟨Nat.le_of_ble_eq_true rfl, Nat.le_of_ble_eq_true rfl⟩) ⟨wSx.blind, fun U hU hW => wSx.go hM hK hI hxe hS (fun q h => h) hU hW⟩ rfl rfl hl.1 rfl (lv_room (Nat.le_of_ble_eq_true rfl)) dL_isReceiverSo_288 ⟨(show cells + 2 + 0 + 2 + 25 ≤ 753 by omega), (show slots + 12 + 0 + 12 + 150 ≤ 4518 by omega)⟩) hS (fun q _ h => (fun q h => h) q h) (fun q h => h) (fun r_37 uu t H_37 locs_37 ht hvm hw hB hzq hk1 hS => ?_)
                                          rw [ht] at hB
                                          have hM := hB
                                          obtain rfl : r_37 = (vlM y.1 y.2.1 ((y.2.2.2 u).2.2.2.2.2.getD k 0)) := hw
                                          refine lv_icmp_ne (tgt := 298) hx hb dL_isReceiverSo_291 (by decide) (fun c_38 => ?_) (fun c_38 => ?_)
                                          · exact absurd rfl c_38
                                          · skip
                                            refine lv_iconst (v := (nI 1)) hx hb dL_isReceiverSo_294 (by decide) ?_
                                            refine lv_goto (tgt := 299) hx hb dL_isReceiverSo_295 (by decide) ?_
                                            refine lv_istore (lv' := [(6, .int (nI 1)), (8, .int (nI ((y.2.2.2 u).2.2.2.2.2.getD k 0))), (7, .int (nI k)), (5, .int (nI (rkN (y.2.2.2 u).2))), (4, .int (nI ((y.2.2.2 u).2.2.2.2.2.length))), (3, .int (nI ((y.2.2.2 u).2.1))), (2, .int (nI y.1)), (1, .int (nI u)), (0, .ref ((g 0)))]) hx hb dL_isReceiverSo_299 hl (by decide) rfl (fun ls hl => ?_)
                                            refine lv_iinc (v := (nI (k + 1))) (lv' := [(7, .int (nI (k + 1))), (6, .int (nI 1)), (8, .int (nI ((y.2.2.2 u).2.2.2.2.2.getD k 0))), (5, .int (nI (rkN (y.2.2.2 u).2))), (4, .int (nI ((y.2.2.2 u).2.2.2.2.2.length))), (3, .int (nI ((y.2.2.2 u).2.1))), (2, .int (nI y.1)), (1, .int (nI u)), (0, .ref ((g 0)))]) hx hb dL_isReceiverSo_301 hl (k := 2) rfl (nI_1 _) (by decide) rfl (fun ls hl => ?_)
                                            refine lv_goto (tgt := 231) hx hb dL_isReceiverSo_304 (by decide) ?_
                                            exact ih (k + 1) _ _ ls _ _ (by omega) (by omega) (by omega) hM hS (lv_sub hl [0, 1, 3, 4, 5, 6, 7, 8] rfl)
                            exact L231 (y.2.2.2 u).2.2.2.2.2.length 0 _ _ ls _ _ (by omega) (by omega) (by omega) hM hS (lv_sub hl [0, 1, 2, 3, 4, 5, 6, 7] rfl)
                          · exfalso
                            have f_c_27 : ¬ y.1 ≤ b := fun z9 => c_27 ((nI_leI (a := y.1) (b := b) (by omega) (by omega)).mpr z9)
                            omega
                        | succ n ih =>
                          intro b H locs ls cells slots hbn hc9 hs9 hM hS hl
                          refine lv_iload hx hb dL_isReceiverSo_174 (lv_at hl 0 rfl) ?_
                          refine lv_iload_n hx hb dL_isReceiverSo_176 rfl (lv_at hl 5 rfl) ?_
                          refine lv_icmp_ge (tgt := 228) hx hb dL_isReceiverSo_177 (by decide) (fun c_39 => ?_) (fun c_39 => ?_)
                          · exfalso
                            have f_c_39 : y.1 ≤ b := (nI_leI (a := y.1) (b := b) (by omega) (by omega)).mp c_39
                            omega
                          · skip
                            refine lv_iload hx hb dL_isReceiverSo_180 (lv_at hl 1 rfl) ?_
                            refine lv_if_eq (tgt := 219) hx hb dL_isReceiverSo_182 (by decide) (fun c_40 => ?_) (fun c_40 => ?_)
                            · exact absurd c_40 (by decide)
                            · skip
                              refine lv_aload_n hx hb dL_isReceiverSo_185 rfl (lv_at hl 7 rfl) ?_
                              refine lv_iload_n hx hb dL_isReceiverSo_186 rfl (lv_at hl 6 rfl) ?_
                              refine lv_iload hx hb dL_isReceiverSo_187 (lv_at hl 0 rfl) ?_
                              refine va_calli (va_runV (As := [.int (nI u), .int (nI b)]) (rest := []) ⟨hx, hb, hml, hown, hts⟩ (n_known l hst E g ln bf z ke hs hz hu (by omega)) (cwV 2 hts gL_isReceiverSo_X5_known rfl rfl rfl (by decide +kernel) ⟨Nat.le_of_ble_eq_true rfl, Nat.le_of_ble_eq_true rfl⟩) ⟨wSx.blind, (w_recv hK hM.main 0 (by decide) rfl (ci := 5) rfl), fun U hU hW => wSx.go hM hK hI hxe hS (fun q h => h) hU hW⟩ rfl rfl hl.1 rfl (lv_room (Nat.le_of_ble_eq_true rfl)) dL_isReceiverSo_189 ⟨(show cells + 2 ≤ 753 by omega), (show slots + 12 ≤ 4518 by omega)⟩) hS (fun q _ h => (fun q h => h) q h) (fun q h => h) (fun r_41 uu t H_41 locs_41 ht hvm hw hB hzq hk1 hS => ?_)
                              rw [ht] at hB
                              have hM := hB
                              obtain rfl : r_41 = (knM y.2.1 ((y.2.2.2 u).2.1) b) := hw
                              refine lv_iload_n hx hb dL_isReceiverSo_192 rfl (lv_at hl 4 rfl) ?_
                              refine lv_iload hx hb dL_isReceiverSo_193 (lv_at hl 0 rfl) ?_
                              refine lv_ishr hx hb dL_isReceiverSo_195 ?_
                              refine lv_iconst (v := (nI 1)) hx hb dL_isReceiverSo_196 (by decide) ?_
                              refine lv_iand hx hb dL_isReceiverSo_197 ?_
                              have hq9 := bN_le ((y.2.2.2 u).2.1) b
                              rw [show (((nI ((y.2.2.2 u).2.1)) >>> ((nI b) &&& 31)) &&& (nI 1)) = nI (bN ((y.2.2.2 u).2.1) b) from shr_bit (by omega) (by omega)]
                              refine lv_iconst (v := (nI 1)) hx hb dL_isReceiverSo_198 (by decide) ?_
                              refine lv_icmp_ne (tgt := 211) hx hb dL_isReceiverSo_199 (by decide) (fun c_42 => ?_) (fun c_42 => ?_)
                              · have f_c_42 : ¬ (bN ((y.2.2.2 u).2.1) b) = 1 := fun z9 => c_42 ((nI_eq (a := (bN ((y.2.2.2 u).2.1) b)) (b := 1) (by omega) (by omega)).mpr z9)
                                refine lv_iconst (v := (-1)) hx hb dL_isReceiverSo_211 (by decide) ?_
                                refine lv_icmp_ne (tgt := 219) hx hb dL_isReceiverSo_212 (by decide) (fun c_43 => ?_) (fun c_43 => ?_)
                                · exact absurd (knM_n f_c_42) c_43
                                · skip
                                  refine lv_iconst (v := (nI 1)) hx hb dL_isReceiverSo_215 (by decide) ?_
                                  refine lv_goto (tgt := 220) hx hb dL_isReceiverSo_216 (by decide) ?_
                                  refine lv_istore (lv' := [(6, .int (nI 1)), (7, .int (nI b)), (5, .int (nI (rkN (y.2.2.2 u).2))), (4, .int (nI ((y.2.2.2 u).2.2.2.2.2.length))), (3, .int (nI ((y.2.2.2 u).2.1))), (2, .int (nI y.1)), (1, .int (nI u)), (0, .ref ((g 0)))]) hx hb dL_isReceiverSo_220 hl (by decide) rfl (fun ls hl => ?_)
                                  refine lv_iinc (v := (nI (b + 1))) (lv' := [(7, .int (nI (b + 1))), (6, .int (nI 1)), (5, .int (nI (rkN (y.2.2.2 u).2))), (4, .int (nI ((y.2.2.2 u).2.2.2.2.2.length))), (3, .int (nI ((y.2.2.2 u).2.1))), (2, .int (nI y.1)), (1, .int (nI u)), (0, .ref ((g 0)))]) hx hb dL_isReceiverSo_222 hl (k := 1) rfl (nI_1 _) (by decide) rfl (fun ls hl => ?_)
                                  refine lv_goto (tgt := 174) hx hb dL_isReceiverSo_225 (by decide) ?_
                                  exact ih (b + 1) _ _ ls _ _ (by omega) (by omega) (by omega) hM hS (lv_sub hl [0, 1, 2, 3, 4, 5, 6, 7] rfl)
                              · have f_c_42 : (bN ((y.2.2.2 u).2.1) b) = 1 := (nI_eq (a := (bN ((y.2.2.2 u).2.1) b)) (b := 1) (by omega) (by omega)).mp c_42
                                refine lv_aload_n hx hb dL_isReceiverSo_202 rfl (lv_at hl 7 rfl) ?_
                                refine lv_iload hx hb dL_isReceiverSo_203 (lv_at hl 0 rfl) ?_
                                refine va_calli (va_runV (As := [.int (nI b)]) (rest := [.int ((knM y.2.1 ((y.2.2.2 u).2.1) b))]) ⟨hx, hb, hml, hown, hts⟩ (n_block l hst E g ln bf z ke hs hz (by omega)) (cwV 1 hts gL_isReceiverSo_X5_block rfl rfl rfl (by decide +kernel) ⟨Nat.le_of_ble_eq_true rfl, Nat.le_of_ble_eq_true rfl⟩) ⟨wSx.blind, (w_recv hK hM.main 0 (by decide) rfl (ci := 5) rfl), fun U hU hW => wSx.go hM hK hI hxe hS (fun q h => h) hU hW⟩ rfl rfl hl.1 rfl (lv_room (Nat.le_of_ble_eq_true rfl)) dL_isReceiverSo_205 ⟨(show cells + 2 + 1 ≤ 753 by omega), (show slots + 12 + 6 ≤ 4518 by omega)⟩) hS (fun q _ h => (fun q h => h) q h) (fun q h => h) (fun r_44 uu t H_44 locs_44 ht hvm hw hB hzq hk1 hS => ?_)
                                rw [ht] at hB
                                have hM := hB
                                obtain rfl : r_44 = (y.2.1 b) := hw
                                refine lv_goto (tgt := 212) hx hb dL_isReceiverSo_208 (by decide) ?_
                                refine lv_icmp_ne (tgt := 219) hx hb dL_isReceiverSo_212 (by decide) (fun c_45 => ?_) (fun c_45 => ?_)
                                · exact absurd (knM_y f_c_42) c_45
                                · skip
                                  refine lv_iconst (v := (nI 1)) hx hb dL_isReceiverSo_215 (by decide) ?_
                                  refine lv_goto (tgt := 220) hx hb dL_isReceiverSo_216 (by decide) ?_
                                  refine lv_istore (lv' := [(6, .int (nI 1)), (7, .int (nI b)), (5, .int (nI (rkN (y.2.2.2 u).2))), (4, .int (nI ((y.2.2.2 u).2.2.2.2.2.length))), (3, .int (nI ((y.2.2.2 u).2.1))), (2, .int (nI y.1)), (1, .int (nI u)), (0, .ref ((g 0)))]) hx hb dL_isReceiverSo_220 hl (by decide) rfl (fun ls hl => ?_)
                                  refine lv_iinc (v := (nI (b + 1))) (lv' := [(7, .int (nI (b + 1))), (6, .int (nI 1)), (5, .int (nI (rkN (y.2.2.2 u).2))), (4, .int (nI ((y.2.2.2 u).2.2.2.2.2.length))), (3, .int (nI ((y.2.2.2 u).2.1))), (2, .int (nI y.1)), (1, .int (nI u)), (0, .ref ((g 0)))]) hx hb dL_isReceiverSo_222 hl (k := 1) rfl (nI_1 _) (by decide) rfl (fun ls hl => ?_)
                                  refine lv_goto (tgt := 174) hx hb dL_isReceiverSo_225 (by decide) ?_
                                  exact ih (b + 1) _ _ ls _ _ (by omega) (by omega) (by omega) hM hS (lv_sub hl [0, 1, 2, 3, 4, 5, 6, 7] rfl)
                      exact L174 y.1 0 _ _ ls _ _ (by omega) (by omega) (by omega) hM hS (lv_sub hl [0, 1, 2, 3, 4, 5, 7, 6] rfl)
