/-! the law: isGotSo -/
set_option maxHeartbeats 4000000 in
set_option maxRecDepth 100000 in
theorem c_L_isGotSo (l : Launch) (hst : l.stackTraces = false) (E : wE) (g : Nat → Nat) (ln : Nat) (bf : Nat → Int32) (z : SS) (ke : Nat) (hs : Nat → SS) {B : Nat} {y : MS} (hz : RZ B z y) (hB9 : B ≤ 90000) {u k : Nat} (hu : u < 3) (hk : k < 10000) : Met l yL_isGotSo wsL_isGotSo ({ frames := 9, cells := 384, slots := 2304, locals := 175 }) (va_Pc [.ref ((g 0)), .int (nI u), .int (nI k)] (wSx E 94 g (wF 94 g) (MB E g ln bf z ke hs))) (va_Qi (fun (r : Int32) (_ : Nat × (Nat → SS)) => r = nI 1) (fun v t => MB E g ln bf z v.1 v.2 t.heap) (wF 94 g)) 384 2304 (wF 94 g) := by
  refine Met.ofW (cc := cL_isGotSo) (maxL := 15) (ret := (some .boolean)) (by decide) rfl ?_
  intro p e s m args below meth c s₁ Bd hml hv
  obtain ⟨rfl, hM, hK, hI, hxe⟩ := hv
  have hx := Bd.exec
  have hb := Bd.bytes
  have hr := Bd.returns
  have hts := atoms_spec (ws := wsL_isGotSo) Bd.pre
  have hown : s.vm.findClass RL = some m.cls := findClass_of_methodNamed Bd.named
  have hlocks := Bd.notSynchronized
  have hS : va_S (wF 94 g) s.heap s.heap [] := va_S.rf
  have hl := lv_entry ([.ref ((g 0)), .int (nI u), .int (nI k)]) (n := 15) (Nat.le_of_ble_eq_true rfl)
  rw [lg_entry_eq]
  generalize (lg_sl ([.ref ((g 0)), .int (nI u), .int (nI k)]) ++ List.replicate (15 - (lg_sl ([.ref ((g 0)), .int (nI u), .int (nI k)])).length) Slot.unset).toArray = ls at hl ⊢
  have hl : lv_has ls 15 [(0, .ref ((g 0))), (1, .int (nI u)), (2, .int (nI k))] := hl
  have hk6 := hM.k6.1
  obtain ⟨hzn, hn2, hn12⟩ := rz_nb hz
  obtain ⟨hMI, hCN⟩ := rz_MI hz hu
  obtain ⟨G, T, O, hcG, hcT, hcO, hcL, hcB⟩ := id hCN
  have hcT : (y.2.2.2 u).2.2.2.1 = nI T := hcT
  have hcO : (y.2.2.2 u).2.2.2.2.1 = nI O := hcO
  have hKb : (y.2.2.2 u).2.1 < 2 ^ y.1 := hMI.1
  have hK4 : (y.2.2.2 u).2.1 < 4096 := MI_K hn12 hMI
  have hcL : T + O + (y.2.2.2 u).2.2.2.2.2.length ≤ G := hcL
  have hpcK := pc_le (y.2.2.2 u).2.1
  have hm : (mskM y.1 k) < 2 ^ y.1 := mskM_lt (by omega) k
  have hp2 : 2 ^ y.1 ≤ 4096 := pow_nb hn12
  have hm4 : (mskM y.1 k) < 4096 := by omega
  have hmp : 1 ≤ pc (mskM y.1 k) := msk_pc (by omega) hn12 k
  have hmq := pc_le (mskM y.1 k)
  have hD12 := gd_le (mskM y.1 k) (y.2.2.2 u)
  have hg2 : pc (getM (mskM y.1 k) (y.2.2.2 u).2).1 = pc (y.2.2.2 u).2.1 + (gd (mskM y.1 k) (y.2.2.2 u)) := (gtv_nI hn12 hm hMI).2
  have hrk : rkN (getM (mskM y.1 k) (y.2.2.2 u).2) = rkN (y.2.2.2 u).2 ∨ rkN (getM (mskM y.1 k) (y.2.2.2 u).2) = rkN (y.2.2.2 u).2 + 1 := getM_rk (MI_K hn12 hMI) (MI_wOK hn12 hMI) hm4
  have hrb : rkN (y.2.2.2 u).2 ≤ y.1 := rk_le hn12 hMI
  obtain ⟨hMI2, hsub⟩ := MI_get hn12 hm hMI
  have hrb2 : rkN (getM (mskM y.1 k) (y.2.2.2 u).2) ≤ y.1 := rk_le hn12 hMI2
  have hW2 : (getM (mskM y.1 k) (y.2.2.2 u).2).2.2.2.2.length ≤ 24 := hMI2.2.2
  have htold := get_told hn12 hm hMI hCN (by omega)
  rw [show (y.2.2.2 u).2.2.2.1 = nI T from hcT, show (y.2.2.2 u).2.2.2.2.1 = nI O from hcO] at htold
  have hnh : nhN k = 100 ∧ k + 100 ≤ 10000 ∨ nhN k = 10000 - k ∧ ¬ k + 100 ≤ 10000 := by unfold nhN; split <;> omega
  have hpc2 := pc_le (getM (mskM y.1 k) (y.2.2.2 u).2).1
  refine lv_aload_n hx hb dL_isGotSo_0 rfl (lv_at hl 0 rfl) ?_
  refine lv_iload_n hx hb dL_isGotSo_1 rfl (lv_at hl 1 rfl) ?_
  refine lv_iload_n hx hb dL_isGotSo_2 rfl (lv_at hl 2 rfl) ?_
  refine lv_iconst (v := (nI 0)) hx hb dL_isGotSo_3 (by decide) ?_
  refine va_calli (va_runV (As := [.int (nI u), .int (nI k), .int (nI 0)]) (rest := []) ⟨hx, hb, hml, hown, hts⟩ (n_ifGot0 l hst E g ln bf z ke hs hz hu hk) (cwV 3 hts gL_isGotSo_X5_ifGot rfl rfl rfl (by decide +kernel) ⟨Nat.le_of_ble_eq_true rfl, Nat.le_of_ble_eq_true rfl⟩) ⟨wSx.blind, (w_recv hK hM.main 0 (by decide) rfl (ci := 5) rfl), fun U hU hW => wSx.go hM hK hI hxe hS (fun q h => h) hU hW⟩ rfl rfl hl.1 rfl (lv_room (Nat.le_of_ble_eq_true rfl)) dL_isGotSo_4 ⟨Nat.le_of_ble_eq_true rfl, Nat.le_of_ble_eq_true rfl⟩) hS (fun q _ h => (fun q h => h) q h) (fun q h => h) (fun r_1 uu t H_1 locs_1 ht hvm hw hB hzq hk1 hS => ?_)
  rw [ht] at hB
  have hM := hB
  obtain rfl : r_1 = nI (gd (mskM y.1 k) (y.2.2.2 u)) := hw
  refine lv_istore_n (lv' := [(3, .int (nI (gd (mskM y.1 k) (y.2.2.2 u)))), (0, .ref ((g 0))), (1, .int (nI u)), (2, .int (nI k))]) hx hb dL_isGotSo_7 rfl hl (by decide) rfl (fun ls hl => ?_)
  refine lv_aload_n hx hb dL_isGotSo_8 rfl (lv_at hl 1 rfl) ?_
  refine lv_iload_n hx hb dL_isGotSo_9 rfl (lv_at hl 2 rfl) ?_
  refine lv_iload_n hx hb dL_isGotSo_10 rfl (lv_at hl 3 rfl) ?_
  refine lv_iconst (v := (nI 1)) hx hb dL_isGotSo_11 (by decide) ?_
  refine va_calli (va_runV (As := [.int (nI u), .int (nI k), .int (nI 1)]) (rest := []) ⟨hx, hb, hml, hown, hts⟩ (n_ifGot1 l hst E g ln bf z ke hs hz hu hk) (cwV 3 hts gL_isGotSo_X5_ifGot rfl rfl rfl (by decide +kernel) ⟨Nat.le_of_ble_eq_true rfl, Nat.le_of_ble_eq_true rfl⟩) ⟨wSx.blind, (w_recv hK hM.main 0 (by decide) rfl (ci := 5) rfl), fun U hU hW => wSx.go hM hK hI hxe hS (fun q h => h) hU hW⟩ rfl rfl hl.1 rfl (lv_room (Nat.le_of_ble_eq_true rfl)) dL_isGotSo_12 ⟨Nat.le_of_ble_eq_true rfl, Nat.le_of_ble_eq_true rfl⟩) hS (fun q _ h => (fun q h => h) q h) (fun q h => h) (fun r_2 uu t H_2 locs_2 ht hvm hw hB hzq hk1 hS => ?_)
  rw [ht] at hB
  have hM := hB
  obtain rfl : r_2 = nI (rkN (getM (mskM y.1 k) (y.2.2.2 u).2)) := hw
  refine lv_istore (lv' := [(4, .int (nI (rkN (getM (mskM y.1 k) (y.2.2.2 u).2)))), (3, .int (nI (gd (mskM y.1 k) (y.2.2.2 u)))), (0, .ref ((g 0))), (1, .int (nI u)), (2, .int (nI k))]) hx hb dL_isGotSo_15 hl (by decide) rfl (fun ls hl => ?_)
  refine lv_aload_n hx hb dL_isGotSo_17 rfl (lv_at hl 2 rfl) ?_
  refine lv_iload_n hx hb dL_isGotSo_18 rfl (lv_at hl 3 rfl) ?_
  refine lv_bipush (v := (nI 8)) hx hb dL_isGotSo_19 (by decide) ?_
  refine va_calli (va_runV (As := [.int (nI u), .int (nI 8)]) (rest := []) ⟨hx, hb, hml, hown, hts⟩ (n_rec8 l hst E g ln bf z ke hs hz hu) (cwV 2 hts gL_isGotSo_X5_receiver rfl rfl rfl (by decide +kernel) ⟨Nat.le_of_ble_eq_true rfl, Nat.le_of_ble_eq_true rfl⟩) ⟨wSx.blind, (w_recv hK hM.main 0 (by decide) rfl (ci := 5) rfl), fun U hU hW => wSx.go hM hK hI hxe hS (fun q h => h) hU hW⟩ rfl rfl hl.1 rfl (lv_room (Nat.le_of_ble_eq_true rfl)) dL_isGotSo_21 ⟨Nat.le_of_ble_eq_true rfl, Nat.le_of_ble_eq_true rfl⟩) hS (fun q _ h => (fun q h => h) q h) (fun q h => h) (fun r_3 uu t H_3 locs_3 ht hvm hw hB hzq hk1 hS => ?_)
  rw [ht] at hB
  have hM := hB
  obtain rfl : r_3 = nI (rkN (y.2.2.2 u).2) := hw
  refine lv_istore (lv' := [(5, .int (nI (rkN (y.2.2.2 u).2))), (4, .int (nI (rkN (getM (mskM y.1 k) (y.2.2.2 u).2)))), (3, .int (nI (gd (mskM y.1 k) (y.2.2.2 u)))), (0, .ref ((g 0))), (1, .int (nI u)), (2, .int (nI k))]) hx hb dL_isGotSo_24 hl (by decide) rfl (fun ls hl => ?_)
  refine lv_aload_n hx hb dL_isGotSo_26 rfl (lv_at hl 3 rfl) ?_
  refine lv_iload_n hx hb dL_isGotSo_27 rfl (lv_at hl 4 rfl) ?_
  refine lv_iconst (v := (nI 1)) hx hb dL_isGotSo_28 (by decide) ?_
  refine va_calli (va_runV (As := [.int (nI u), .int (nI 1)]) (rest := []) ⟨hx, hb, hml, hown, hts⟩ (n_rec1 l hst E g ln bf z ke hs hz hu) (cwV 2 hts gL_isGotSo_X5_receiver rfl rfl rfl (by decide +kernel) ⟨Nat.le_of_ble_eq_true rfl, Nat.le_of_ble_eq_true rfl⟩) ⟨wSx.blind, (w_recv hK hM.main 0 (by decide) rfl (ci := 5) rfl), fun U hU hW => wSx.go hM hK hI hxe hS (fun q h => h) hU hW⟩ rfl rfl hl.1 rfl (lv_room (Nat.le_of_ble_eq_true rfl)) dL_isGotSo_29 ⟨Nat.le_of_ble_eq_true rfl, Nat.le_of_ble_eq_true rfl⟩) hS (fun q _ h => (fun q h => h) q h) (fun q h => h) (fun r_4 uu t H_4 locs_4 ht hvm hw hB hzq hk1 hS => ?_)
  rw [ht] at hB
  have hM := hB
  obtain rfl : r_4 = nI (pc (y.2.2.2 u).2.1) := hw
  refine lv_istore (lv' := [(6, .int (nI (pc (y.2.2.2 u).2.1))), (5, .int (nI (rkN (y.2.2.2 u).2))), (4, .int (nI (rkN (getM (mskM y.1 k) (y.2.2.2 u).2)))), (3, .int (nI (gd (mskM y.1 k) (y.2.2.2 u)))), (0, .ref ((g 0))), (1, .int (nI u)), (2, .int (nI k))]) hx hb dL_isGotSo_32 hl (by decide) rfl (fun ls hl => ?_)
  refine lv_aload_n hx hb dL_isGotSo_34 rfl (lv_at hl 4 rfl) ?_
  refine lv_iload_n hx hb dL_isGotSo_35 rfl (lv_at hl 5 rfl) ?_
  refine lv_iconst (v := (nI 5)) hx hb dL_isGotSo_36 (by decide) ?_
  refine va_calli (va_runV (As := [.int (nI u), .int (nI 5)]) (rest := []) ⟨hx, hb, hml, hown, hts⟩ (n_rec5 l hst E g ln bf z ke hs hz hu) (cwV 2 hts gL_isGotSo_X5_receiver rfl rfl rfl (by decide +kernel) ⟨Nat.le_of_ble_eq_true rfl, Nat.le_of_ble_eq_true rfl⟩) ⟨wSx.blind, (w_recv hK hM.main 0 (by decide) rfl (ci := 5) rfl), fun U hU hW => wSx.go hM hK hI hxe hS (fun q h => h) hU hW⟩ rfl rfl hl.1 rfl (lv_room (Nat.le_of_ble_eq_true rfl)) dL_isGotSo_37 ⟨Nat.le_of_ble_eq_true rfl, Nat.le_of_ble_eq_true rfl⟩) hS (fun q _ h => (fun q h => h) q h) (fun q h => h) (fun r_5 uu t H_5 locs_5 ht hvm hw hB hzq hk1 hS => ?_)
  rw [ht] at hB
  have hM := hB
  obtain rfl : r_5 = ((y.2.2.2 u).2.2.2.1) := hw
  rw [hcT]
  refine lv_istore (lv' := [(7, .int (nI T)), (6, .int (nI (pc (y.2.2.2 u).2.1))), (5, .int (nI (rkN (y.2.2.2 u).2))), (4, .int (nI (rkN (getM (mskM y.1 k) (y.2.2.2 u).2)))), (3, .int (nI (gd (mskM y.1 k) (y.2.2.2 u)))), (0, .ref ((g 0))), (1, .int (nI u)), (2, .int (nI k))]) hx hb dL_isGotSo_40 hl (by decide) rfl (fun ls hl => ?_)
  refine lv_aload_n hx hb dL_isGotSo_42 rfl (lv_at hl 5 rfl) ?_
  refine lv_iload_n hx hb dL_isGotSo_43 rfl (lv_at hl 6 rfl) ?_
  refine lv_bipush (v := (nI 6)) hx hb dL_isGotSo_44 (by decide) ?_
  refine va_calli (va_runV (As := [.int (nI u), .int (nI 6)]) (rest := []) ⟨hx, hb, hml, hown, hts⟩ (n_rec6 l hst E g ln bf z ke hs hz hu) (cwV 2 hts gL_isGotSo_X5_receiver rfl rfl rfl (by decide +kernel) ⟨Nat.le_of_ble_eq_true rfl, Nat.le_of_ble_eq_true rfl⟩) ⟨wSx.blind, (w_recv hK hM.main 0 (by decide) rfl (ci := 5) rfl), fun U hU hW => wSx.go hM hK hI hxe hS (fun q h => h) hU hW⟩ rfl rfl hl.1 rfl (lv_room (Nat.le_of_ble_eq_true rfl)) dL_isGotSo_46 ⟨Nat.le_of_ble_eq_true rfl, Nat.le_of_ble_eq_true rfl⟩) hS (fun q _ h => (fun q h => h) q h) (fun q h => h) (fun r_6 uu t H_6 locs_6 ht hvm hw hB hzq hk1 hS => ?_)
  rw [ht] at hB
  have hM := hB
  obtain rfl : r_6 = ((y.2.2.2 u).2.2.2.2.1) := hw
  rw [hcO]
  refine lv_istore (lv' := [(8, .int (nI O)), (7, .int (nI T)), (6, .int (nI (pc (y.2.2.2 u).2.1))), (5, .int (nI (rkN (y.2.2.2 u).2))), (4, .int (nI (rkN (getM (mskM y.1 k) (y.2.2.2 u).2)))), (3, .int (nI (gd (mskM y.1 k) (y.2.2.2 u)))), (0, .ref ((g 0))), (1, .int (nI u)), (2, .int (nI k))]) hx hb dL_isGotSo_49 hl (by decide) rfl (fun ls hl => ?_)
  refine lv_aload_n hx hb dL_isGotSo_51 rfl (lv_at hl 6 rfl) ?_
  refine lv_iload_n hx hb dL_isGotSo_52 rfl (lv_at hl 8 rfl) ?_
  refine lv_iconst (v := (nI 1)) hx hb dL_isGotSo_53 (by decide) ?_
  refine va_calli (va_runV (As := [.int (nI k), .int (nI 1)]) (rest := []) ⟨hx, hb, hml, hown, hts⟩ (n_mix1 l hst E g ln bf z ke hs hz hk) (cwV 2 hts gL_isGotSo_X5_mix rfl rfl rfl (by decide +kernel) ⟨Nat.le_of_ble_eq_true rfl, Nat.le_of_ble_eq_true rfl⟩) ⟨wSx.blind, (w_recv hK hM.main 0 (by decide) rfl (ci := 5) rfl), fun U hU hW => wSx.go hM hK hI hxe hS (fun q h => h) hU hW⟩ rfl rfl hl.1 rfl (lv_room (Nat.le_of_ble_eq_true rfl)) dL_isGotSo_54 ⟨Nat.le_of_ble_eq_true rfl, Nat.le_of_ble_eq_true rfl⟩) hS (fun q _ h => (fun q h => h) q h) (fun q h => h) (fun r_7 uu t H_7 locs_7 ht hvm hw hB hzq hk1 hS => ?_)
  rw [ht] at hB
  have hM := hB
  obtain rfl : r_7 = nI (mskM y.1 k) := hw
  refine lv_istore (lv' := [(9, .int (nI (mskM y.1 k))), (8, .int (nI O)), (7, .int (nI T)), (6, .int (nI (pc (y.2.2.2 u).2.1))), (5, .int (nI (rkN (y.2.2.2 u).2))), (4, .int (nI (rkN (getM (mskM y.1 k) (y.2.2.2 u).2)))), (3, .int (nI (gd (mskM y.1 k) (y.2.2.2 u)))), (0, .ref ((g 0))), (1, .int (nI u)), (2, .int (nI k))]) hx hb dL_isGotSo_57 hl (by decide) rfl (fun ls hl => ?_)
  refine lv_aload_n hx hb dL_isGotSo_59 rfl (lv_at hl 7 rfl) ?_
  refine lv_iload_n hx hb dL_isGotSo_60 rfl (lv_at hl 8 rfl) ?_
  refine lv_iload_n hx hb dL_isGotSo_61 rfl (lv_at hl 9 rfl) ?_
  refine va_calli (va_runV (As := [.int (nI u), .int (nI k)]) (rest := []) ⟨hx, hb, hml, hown, hts⟩ (n_helps l hst E g ln bf z ke hs hz hu hk) (cwV 2 hts gL_isGotSo_X5_helps rfl rfl rfl (by decide +kernel) ⟨Nat.le_of_ble_eq_true rfl, Nat.le_of_ble_eq_true rfl⟩) ⟨wSx.blind, (w_recv hK hM.main 0 (by decide) rfl (ci := 5) rfl), fun U hU hW => wSx.go hM hK hI hxe hS (fun q h => h) hU hW⟩ rfl rfl hl.1 rfl (lv_room (Nat.le_of_ble_eq_true rfl)) dL_isGotSo_62 ⟨Nat.le_of_ble_eq_true rfl, Nat.le_of_ble_eq_true rfl⟩) hS (fun q _ h => (fun q h => h) q h) (fun q h => h) (fun r_8 uu t H_8 locs_8 ht hvm hw hB hzq hk1 hS => ?_)
  rw [ht] at hB
  have hM := hB
  obtain rfl : r_8 = (nhS (hpM y.1 (y.2.2.2 u)) (nhN k) k) := hw
  refine lv_istore (lv' := [(10, .int ((nhS (hpM y.1 (y.2.2.2 u)) (nhN k) k))), (9, .int (nI (mskM y.1 k))), (8, .int (nI O)), (7, .int (nI T)), (6, .int (nI (pc (y.2.2.2 u).2.1))), (5, .int (nI (rkN (y.2.2.2 u).2))), (4, .int (nI (rkN (getM (mskM y.1 k) (y.2.2.2 u).2)))), (3, .int (nI (gd (mskM y.1 k) (y.2.2.2 u)))), (0, .ref ((g 0))), (1, .int (nI u)), (2, .int (nI k))]) hx hb dL_isGotSo_65 hl (by decide) rfl (fun ls hl => ?_)
  refine lv_aload_n hx hb dL_isGotSo_67 rfl (lv_at hl 8 rfl) ?_
  refine lv_iload_n hx hb dL_isGotSo_68 rfl (lv_at hl 10 rfl) ?_
  refine lv_iconst (v := (nI 0)) hx hb dL_isGotSo_69 (by decide) ?_
  refine va_calli (va_runV (As := [.int (nI k), .int (nI 0)]) (rest := []) ⟨hx, hb, hml, hown, hts⟩ (n_mix0 l hst E g ln bf z ke hs hz hk) (cwV 2 hts gL_isGotSo_X5_mix rfl rfl rfl (by decide +kernel) ⟨Nat.le_of_ble_eq_true rfl, Nat.le_of_ble_eq_true rfl⟩) ⟨wSx.blind, (w_recv hK hM.main 0 (by decide) rfl (ci := 5) rfl), fun U hU hW => wSx.go hM hK hI hxe hS (fun q h => h) hU hW⟩ rfl rfl hl.1 rfl (lv_room (Nat.le_of_ble_eq_true rfl)) dL_isGotSo_70 ⟨Nat.le_of_ble_eq_true rfl, Nat.le_of_ble_eq_true rfl⟩) hS (fun q _ h => (fun q h => h) q h) (fun q h => h) (fun r_9 uu t H_9 locs_9 ht hvm hw hB hzq hk1 hS => ?_)
  rw [ht] at hB
  have hM := hB
  obtain rfl : r_9 = nI (pc (mskM y.1 k)) := hw
  refine lv_iload hx hb dL_isGotSo_73 (lv_at hl 1 rfl) ?_
  refine va_calli (va_runS (As := [.int (nI (mskM y.1 k))]) (rest := [.int (nI (pc (mskM y.1 k)))]) ⟨hx, hb, hml, hown, hts⟩ (c_L_bits l (mskM y.1 k) hm4) (va_cwS 1 hts gL_isGotSo_L_bits rfl rfl rfl (by decide +kernel) ⟨Nat.le_of_ble_eq_true rfl, Nat.le_of_ble_eq_true rfl⟩) ⟨wU_blind, fun U hU hW => ⟨rfl, trivial⟩⟩ rfl rfl hl.1 rfl (lv_room (Nat.le_of_ble_eq_true rfl)) dL_isGotSo_75 ⟨Nat.le_of_ble_eq_true rfl, Nat.le_of_ble_eq_true rfl⟩) hS (fun q _ h => (fun q h => h.elim) q h) (fun q h => h.elim) (fun r_10 uu t H_10 locs_10 ht hvm hw hB hzq hk1 hS => ?_)
  have hM := hM.keep (fun q hq => hk1 q hq (fun z9 => z9))
  obtain rfl : r_10 = nI (pc (mskM y.1 k)) := hw
  refine lv_icmp_ne (tgt := 137) hx hb dL_isGotSo_78 (by decide) (fun c_11 => ?_) (fun c_11 => ?_)
  · exact absurd rfl c_11
  · skip
    refine lv_iload hx hb dL_isGotSo_81 (lv_at hl 1 rfl) ?_
    refine va_calli (va_runS (As := [.int (nI (mskM y.1 k))]) (rest := []) ⟨hx, hb, hml, hown, hts⟩ (c_L_bits l (mskM y.1 k) hm4) (va_cwS 1 hts gL_isGotSo_L_bits rfl rfl rfl (by decide +kernel) ⟨Nat.le_of_ble_eq_true rfl, Nat.le_of_ble_eq_true rfl⟩) ⟨wU_blind, fun U hU hW => ⟨rfl, trivial⟩⟩ rfl rfl hl.1 rfl (lv_room (Nat.le_of_ble_eq_true rfl)) dL_isGotSo_83 ⟨Nat.le_of_ble_eq_true rfl, Nat.le_of_ble_eq_true rfl⟩) hS (fun q _ h => (fun q h => h.elim) q h) (fun q h => h.elim) (fun r_12 uu t H_12 locs_12 ht hvm hw hB hzq hk1 hS => ?_)
    have hM := hM.keep (fun q hq => hk1 q hq (fun z9 => z9))
    obtain rfl : r_12 = nI (pc (mskM y.1 k)) := hw
    refine lv_iconst (v := (nI 1)) hx hb dL_isGotSo_86 (by decide) ?_
    refine lv_icmp_lt (tgt := 137) hx hb dL_isGotSo_87 (by decide) (fun c_13 => ?_) (fun c_13 => ?_)
    · exfalso
      have f_c_13 : (pc (mskM y.1 k)) < 1 := (nI_ltI (a := (pc (mskM y.1 k))) (b := 1) (by omega) (by omega)).mp c_13
      omega
    · skip
      refine lv_iload hx hb dL_isGotSo_90 (lv_at hl 1 rfl) ?_
      refine lv_iconst (v := (nI 1)) hx hb dL_isGotSo_92 (by decide) ?_
      refine lv_aload_n hx hb dL_isGotSo_93 rfl (lv_at hl 8 rfl) ?_
      refine lv_iconst (v := (nI 0)) hx hb dL_isGotSo_94 (by decide) ?_
      refine va_calli (va_runV (As := [.int (nI 0)]) (rest := [.int (nI 1), .int (nI (mskM y.1 k))]) ⟨hx, hb, hml, hown, hts⟩ (n_count0 l hst E g ln bf z ke hs hz) (cwV 1 hts gL_isGotSo_X5_count rfl rfl rfl (by decide +kernel) ⟨Nat.le_of_ble_eq_true rfl, Nat.le_of_ble_eq_true rfl⟩) ⟨wSx.blind, (w_recv hK hM.main 0 (by decide) rfl (ci := 5) rfl), fun U hU hW => wSx.go hM hK hI hxe hS (fun q h => h) hU hW⟩ rfl rfl hl.1 rfl (lv_room (Nat.le_of_ble_eq_true rfl)) dL_isGotSo_95 ⟨Nat.le_of_ble_eq_true rfl, Nat.le_of_ble_eq_true rfl⟩) hS (fun q _ h => (fun q h => h) q h) (fun q h => h) (fun r_14 uu t H_14 locs_14 ht hvm hw hB hzq hk1 hS => ?_)
      rw [ht] at hB
      have hM := hB
      obtain rfl : r_14 = nI y.1 := hw
      refine lv_ishl hx hb dL_isGotSo_98 ?_
      rw [show ((nI 1) <<< ((nI y.1) &&& 31)) = nI (2 ^ y.1) from shl_one (by omega)]
      refine lv_icmp_ge (tgt := 137) hx hb dL_isGotSo_99 (by decide) (fun c_15 => ?_) (fun c_15 => ?_)
      · exfalso
        have f_c_15 : (2 ^ y.1) ≤ (mskM y.1 k) := (nI_leI (a := (2 ^ y.1)) (b := (mskM y.1 k)) (by omega) (by omega)).mp c_15
        omega
      · skip
        refine lv_aload_n hx hb dL_isGotSo_102 rfl (lv_at hl 8 rfl) ?_
        refine lv_iload_n hx hb dL_isGotSo_103 rfl (lv_at hl 10 rfl) ?_
        refine lv_iconst (v := (nI 2)) hx hb dL_isGotSo_104 (by decide) ?_
        refine va_calli (va_runV (As := [.int (nI k), .int (nI 2)]) (rest := []) ⟨hx, hb, hml, hown, hts⟩ (n_mix2 l hst E g ln bf z ke hs hz hk) (cwV 2 hts gL_isGotSo_X5_mix rfl rfl rfl (by decide +kernel) ⟨Nat.le_of_ble_eq_true rfl, Nat.le_of_ble_eq_true rfl⟩) ⟨wSx.blind, (w_recv hK hM.main 0 (by decide) rfl (ci := 5) rfl), fun U hU hW => wSx.go hM hK hI hxe hS (fun q h => h) hU hW⟩ rfl rfl hl.1 rfl (lv_room (Nat.le_of_ble_eq_true rfl)) dL_isGotSo_105 ⟨Nat.le_of_ble_eq_true rfl, Nat.le_of_ble_eq_true rfl⟩) hS (fun q _ h => (fun q h => h) q h) (fun q h => h) (fun r_16 uu t H_16 locs_16 ht hvm hw hB hzq hk1 hS => ?_)
        rw [ht] at hB
        have hM := hB
        obtain rfl : r_16 = (vlM y.1 y.2.1 (mskM y.1 k)) := hw
        refine lv_aload_n hx hb dL_isGotSo_108 rfl (lv_at hl 8 rfl) ?_
        refine lv_iload hx hb dL_isGotSo_109 (lv_at hl 1 rfl) ?_
        refine va_calli (va_runS (As := [.ref ((g 0)), .int (nI (mskM y.1 k))]) (rest := [.int ((vlM y.1 y.2.1 (mskM y.1 k)))]) ⟨hx, hb, hml, hown, hts⟩ (c_L_value l hst E g ln bf z ke hs hz hm) (va_cwS 2 hts gL_isGotSo_L_value rfl rfl rfl (by decide +kernel) ⟨Nat.le_of_ble_eq_true rfl, Nat.le_of_ble_eq_true rfl⟩) ⟨wSx.blind, fun U hU hW => wSx.go hM hK hI hxe hS (fun q h => h) hU hW⟩ rfl rfl hl.1 rfl (lv_room (Nat.le_of_ble_eq_true rfl)) dL_isGotSo_111 ⟨Nat.le_of_ble_eq_true rfl, Nat.le_of_ble_eq_true rfl⟩) hS (fun q _ h => (fun q h => h) q h) (fun q h => h) (fun r_17 uu t H_17 locs_17 ht hvm hw hB hzq hk1 hS => ?_)
        rw [ht] at hB
        have hM := hB
        obtain rfl : r_17 = (vlM y.1 y.2.1 (mskM y.1 k)) := hw
        refine lv_icmp_ne (tgt := 137) hx hb dL_isGotSo_114 (by decide) (fun c_18 => ?_) (fun c_18 => ?_)
        · exact absurd rfl c_18
        · skip
          have J133 : ∀  (H : Heap) (locs : List Loc) (ls : Array Slot) (cells slots : Nat), cells ≤ 48 → slots ≤ 288 → MB E g ln bf z ke hs H → va_S (wF 94 g) s.heap H locs → lv_has ls 15 [(10, .int ((nhS (hpM y.1 (y.2.2.2 u)) (nhN k) k))), (9, .int (nI (mskM y.1 k))), (8, .int (nI O)), (7, .int (nI T)), (6, .int (nI (pc (y.2.2.2 u).2.1))), (5, .int (nI (rkN (y.2.2.2 u).2))), (4, .int (nI (rkN (getM (mskM y.1 k) (y.2.2.2 u).2)))), (3, .int (nI (gd (mskM y.1 k) (y.2.2.2 u)))), (2, .int (nI k)), (1, .int (nI u)), (0, .ref ((g 0)))] → W p l e (headSpec wsL_isGotSo ({ frames := 9, cells := 384, slots := 2304, locals := 175 })).room s m ([.ref ((g 0)), .int (nI u), .int (nI k)] : List Value).toArray below meth c H locs (cells) (slots) (MQ below (va_Qi (fun (r : Int32) (_ : Nat × (Nat → SS)) => r = nI 1) (fun v t => MB E g ln bf z v.1 v.2 t.heap) (wF 94 g)) ([.ref ((g 0)), .int (nI u), .int (nI k)] : List Value).toArray s 384 2304 (wF 94 g)) (F0 m 133 ls []) := by
            intro  H locs ls cells slots hc9 hs9 hM hS hl
            refine lv_iconst (v := (nI 1)) hx hb dL_isGotSo_133 (by decide) ?_
            refine lv_goto (tgt := 138) hx hb dL_isGotSo_134 (by decide) ?_
            refine lv_istore (lv' := [(11, .int (nI 1)), (10, .int ((nhS (hpM y.1 (y.2.2.2 u)) (nhN k) k))), (9, .int (nI (mskM y.1 k))), (8, .int (nI O)), (7, .int (nI T)), (6, .int (nI (pc (y.2.2.2 u).2.1))), (5, .int (nI (rkN (y.2.2.2 u).2))), (4, .int (nI (rkN (getM (mskM y.1 k) (y.2.2.2 u).2)))), (3, .int (nI (gd (mskM y.1 k) (y.2.2.2 u)))), (2, .int (nI k)), (1, .int (nI u)), (0, .ref ((g 0)))]) hx hb dL_isGotSo_138 hl (by decide) rfl (fun ls hl => ?_)
            have J244 : ∀  (H : Heap) (locs : List Loc) (ls : Array Slot) (cells slots : Nat), cells ≤ 351 → slots ≤ 2106 → MB E g ln bf z ke hs H → va_S (wF 94 g) s.heap H locs → lv_has ls 15 [(11, .int (nI 1)), (9, .int (nI (mskM y.1 k))), (8, .int (nI O)), (7, .int (nI T)), (6, .int (nI (pc (y.2.2.2 u).2.1))), (5, .int (nI (rkN (y.2.2.2 u).2))), (4, .int (nI (rkN (getM (mskM y.1 k) (y.2.2.2 u).2)))), (3, .int (nI (gd (mskM y.1 k) (y.2.2.2 u)))), (2, .int (nI k)), (1, .int (nI u)), (0, .ref ((g 0)))] → W p l e (headSpec wsL_isGotSo ({ frames := 9, cells := 384, slots := 2304, locals := 175 })).room s m ([.ref ((g 0)), .int (nI u), .int (nI k)] : List Value).toArray below meth c H locs (cells) (slots) (MQ below (va_Qi (fun (r : Int32) (_ : Nat × (Nat → SS)) => r = nI 1) (fun v t => MB E g ln bf z v.1 v.2 t.heap) (wF 94 g)) ([.ref ((g 0)), .int (nI u), .int (nI k)] : List Value).toArray s 384 2304 (wF 94 g)) (F0 m 244 ls []) := by
              intro  H locs ls cells slots hc9 hs9 hM hS hl
              refine lv_aload_n hx hb dL_isGotSo_244 rfl (lv_at hl 10 rfl) ?_
              refine lv_iload_n hx hb dL_isGotSo_245 rfl (lv_at hl 9 rfl) ?_
              refine lv_iconst (v := (nI 1)) hx hb dL_isGotSo_246 (by decide) ?_
              refine W.eq (g2 := F0 m 247 ls [.int (bI true), .int (nI u), .ref (g 0)]) rfl ?_
              refine va_calli (va_runV (As := [.int (nI u), .int ((bI true))]) (rest := []) ⟨hx, hb, hml, hown, hts⟩ (n_listen l hst E g ln bf z ke hs hu true) (cwV 2 hts gL_isGotSo_X5_listen rfl rfl rfl (by decide +kernel) ⟨Nat.le_of_ble_eq_true rfl, Nat.le_of_ble_eq_true rfl⟩) ⟨wSx.blind, (w_recv hK hM.main 0 (by decide) rfl (ci := 5) rfl), fun U hU hW => wSx.go hM hK hI hxe hS (fun q h => h) hU hW⟩ rfl rfl hl.1 rfl (lv_room (Nat.le_of_ble_eq_true rfl)) dL_isGotSo_247 ⟨(show cells + 1 ≤ 384 by omega), (show slots + 6 ≤ 2304 by omega)⟩) hS (fun q _ h => (fun q h => h) q h) (fun q h => h) (fun r_19 uu t H_19 locs_19 ht hvm hw hB hzq hk1 hS => ?_)
              rw [ht] at hB
              have hM := hB
              obtain rfl : r_19 = (bI (z.2.2.2 u).1) := hw
              have hz1 := listen_mk hz hu true
              obtain ⟨z1, ez1⟩ : ∃ z1, z1 = recvZ z u (true, (z.2.2.2 u).2) := ⟨_, rfl⟩
              obtain ⟨y1, ey1⟩ : ∃ y1 : MS, y1 = (y.1, y.2.1, y.2.2.1, va_up y.2.2.2 u (true, (y.2.2.2 u).2)) := ⟨_, rfl⟩
              rw [← ez1] at hM hz1
              rw [← ey1] at hz1
              have hy1n : y1.1 = y.1 := by rw [ey1]
              have hy1u : y1.2.2.2 u = (true, (y.2.2.2 u).2) := by rw [ey1]; exact va_up_at _ _ _
              have hy1o : ∀ j, j ≠ u → y1.2.2.2 j = y.2.2.2 j := by intro j hj; rw [ey1]; exact va_up_ne _ _ hj
              refine lv_istore (lv' := [(12, .int ((bI (z.2.2.2 u).1))), (11, .int (nI 1)), (9, .int (nI (mskM y.1 k))), (8, .int (nI O)), (7, .int (nI T)), (6, .int (nI (pc (y.2.2.2 u).2.1))), (5, .int (nI (rkN (y.2.2.2 u).2))), (4, .int (nI (rkN (getM (mskM y.1 k) (y.2.2.2 u).2)))), (3, .int (nI (gd (mskM y.1 k) (y.2.2.2 u)))), (2, .int (nI k)), (1, .int (nI u)), (0, .ref ((g 0)))]) hx hb dL_isGotSo_250 hl (by decide) rfl (fun ls hl => ?_)
              refine lv_iconst (v := (nI 0)) hx hb dL_isGotSo_252 (by decide) ?_
              refine lv_istore (lv' := [(13, .int (nI 0)), (12, .int ((bI (z.2.2.2 u).1))), (11, .int (nI 1)), (9, .int (nI (mskM y.1 k))), (8, .int (nI O)), (7, .int (nI T)), (6, .int (nI (pc (y.2.2.2 u).2.1))), (5, .int (nI (rkN (y.2.2.2 u).2))), (4, .int (nI (rkN (getM (mskM y.1 k) (y.2.2.2 u).2)))), (3, .int (nI (gd (mskM y.1 k) (y.2.2.2 u)))), (2, .int (nI k)), (1, .int (nI u)), (0, .ref ((g 0)))]) hx hb dL_isGotSo_253 hl (by decide) rfl (fun ls hl => ?_)
              refine lv_iconst (v := (nI 0)) hx hb dL_isGotSo_255 (by decide) ?_
              refine lv_istore (lv' := [(14, .int (nI 0)), (13, .int (nI 0)), (12, .int ((bI (z.2.2.2 u).1))), (11, .int (nI 1)), (9, .int (nI (mskM y.1 k))), (8, .int (nI O)), (7, .int (nI T)), (6, .int (nI (pc (y.2.2.2 u).2.1))), (5, .int (nI (rkN (y.2.2.2 u).2))), (4, .int (nI (rkN (getM (mskM y.1 k) (y.2.2.2 u).2)))), (3, .int (nI (gd (mskM y.1 k) (y.2.2.2 u)))), (2, .int (nI k)), (1, .int (nI u)), (0, .ref ((g 0)))]) hx hb dL_isGotSo_256 hl (by decide) rfl (fun ls hl => ?_)
              have L258 : ∀ (n : Nat) (j : Nat) (H : Heap) (locs : List Loc) (ls : Array Slot) (cells slots : Nat), j + n = 3 → cells + n * 5 ≤ 367 → slots + n * 30 ≤ 2202 → MB E g ln bf z1 (kpK ke) (pushH ke hs z) H → va_S (wF 94 g) s.heap H locs → lv_has ls 15 [(14, .int (nI j)), (13, .int (nI (othN (mskM y.1 k) u y.2.2.2 j))), (12, .int ((bI (z.2.2.2 u).1))), (11, .int (nI 1)), (9, .int (nI (mskM y.1 k))), (8, .int (nI O)), (7, .int (nI T)), (6, .int (nI (pc (y.2.2.2 u).2.1))), (5, .int (nI (rkN (y.2.2.2 u).2))), (4, .int (nI (rkN (getM (mskM y.1 k) (y.2.2.2 u).2)))), (3, .int (nI (gd (mskM y.1 k) (y.2.2.2 u)))), (2, .int (nI k)), (1, .int (nI u)), (0, .ref ((g 0)))] → W p l e (headSpec wsL_isGotSo ({ frames := 9, cells := 384, slots := 2304, locals := 175 })).room s m ([.ref ((g 0)), .int (nI u), .int (nI k)] : List Value).toArray below meth c H locs (cells) (slots) (MQ below (va_Qi (fun (r : Int32) (_ : Nat × (Nat → SS)) => r = nI 1) (fun v t => MB E g ln bf z v.1 v.2 t.heap) (wF 94 g)) ([.ref ((g 0)), .int (nI u), .int (nI k)] : List Value).toArray s 384 2304 (wF 94 g)) (F0 m 258 ls []) := by
                intro n
                induction n with
                | zero =>
                  intro j H locs ls cells slots hj3n hc9 hs9 hM hS hl
                  have hj3 : j = 3 := by omega
                  subst hj3
                  refine lv_iload hx hb dL_isGotSo_258 (lv_at hl 0 rfl) ?_
                  refine lv_iconst (v := (nI 3)) hx hb dL_isGotSo_260 (by decide) ?_
                  refine lv_icmp_ge (tgt := 304) hx hb dL_isGotSo_261 (by decide) (fun c_20 => ?_) (fun c_20 => ?_)
                  · skip
                    refine lv_iload hx hb dL_isGotSo_304 (lv_at hl 3 rfl) ?_
                    refine lv_if_eq (tgt := 393) hx hb dL_isGotSo_306 (by decide) (fun c_21 => ?_) (fun c_21 => ?_)
                    · exact absurd c_21 (by decide)
                    · skip
                      refine lv_aload_n hx hb dL_isGotSo_309 rfl (lv_at hl 13 rfl) ?_
                      refine lv_iload_n hx hb dL_isGotSo_310 rfl (lv_at hl 11 rfl) ?_
                      refine va_calli (va_runV (As := [.int (nI k)]) (rest := []) ⟨hx, hb, hml, hown, hts⟩ (n_send l hst E g ln bf z1 (kpK ke) (pushH ke hs z) hz1 hk) (cwV 1 hts gL_isGotSo_X5_send rfl rfl rfl (by decide +kernel) ⟨Nat.le_of_ble_eq_true rfl, Nat.le_of_ble_eq_true rfl⟩) ⟨wSx.blind, (w_recv hK hM.main 0 (by decide) rfl (ci := 5) rfl), fun U hU hW => wSx.go hM hK hI hxe hS (fun q h => h) hU hW⟩ rfl rfl hl.1 rfl (lv_room (Nat.le_of_ble_eq_true rfl)) dL_isGotSo_311 ⟨(show cells + 1 ≤ 384 by omega), (show slots + 6 ≤ 2304 by omega)⟩) hS (fun q _ h => (fun q h => h) q h) (fun q h => h) (fun r_22 uu t H_22 locs_22 ht hvm hw hB hzq hk1 hS => ?_)
                      rw [ht] at hB
                      have hM := hB
                      obtain rfl : r_22 = (sumM (mskM y1.1 k) y1.2.2.2 3) := hw
                      rw [show sumM (mskM y1.1 k) y1.2.2.2 3 = nI (othN (mskM y.1 k) u y.2.2.2 3 + (gd (mskM y.1 k) (y.2.2.2 u))) by rw [hy1n]; exact sum_oth hn12 hm hu (fun i hi => (rz_MI hz hi).1) hy1u hy1o]
                      have hz2 := (send_mk hz1 k).1
                      obtain ⟨z2, ez2⟩ : ∃ z2, z2 = sendZ z1 k := ⟨_, rfl⟩
                      obtain ⟨y2, ey2⟩ : ∃ y2 : MS, y2 = (y1.1, y1.2.1, y1.2.2.1 + 1, mapQ (gotM (mskM y1.1 k)) y1.2.2.2 3) := ⟨_, rfl⟩
                      rw [← ez2] at hM hz2
                      rw [← ey2] at hz2
                      have hy2u : y2.2.2.2 u = (true, (getM (mskM y.1 k) (y.2.2.2 u).2)) := by rw [ey2]; show mapQ (gotM (mskM y1.1 k)) y1.2.2.2 3 u = _; unfold mapQ; rw [if_pos hu, hy1u, hy1n, gotM_y rfl]
                      have hol := othN_le (mskM y.1 k) u y.2.2.2 3
                      refine lv_iload hx hb dL_isGotSo_314 (lv_at hl 1 rfl) ?_
                      refine lv_iload_n hx hb dL_isGotSo_316 rfl (lv_at hl 10 rfl) ?_
                      refine lv_iadd hx hb dL_isGotSo_317 ?_
                      rw [show nI (othN (mskM y.1 k) u y.2.2.2 3) + nI (gd (mskM y.1 k) (y.2.2.2 u)) = nI ((othN (mskM y.1 k) u y.2.2.2 3) + (gd (mskM y.1 k) (y.2.2.2 u))) from nI_add _ _]
                      refine lv_icmp_ne (tgt := 393) hx hb dL_isGotSo_318 (by decide) (fun c_23 => ?_) (fun c_23 => ?_)
                      · exact absurd rfl c_23
                      · skip
                        refine lv_aload_n hx hb dL_isGotSo_321 rfl (lv_at hl 13 rfl) ?_
                        refine lv_iload_n hx hb dL_isGotSo_322 rfl (lv_at hl 12 rfl) ?_
                        refine lv_iconst (v := (nI 1)) hx hb dL_isGotSo_323 (by decide) ?_
                        refine va_calli (va_runV (As := [.int (nI u), .int (nI 1)]) (rest := []) ⟨hx, hb, hml, hown, hts⟩ (n_rec1 l hst E g ln bf z2 (kpK (kpK ke)) (pushH (kpK ke) (pushH ke hs z) z1) hz2 hu) (cwV 2 hts gL_isGotSo_X5_receiver rfl rfl rfl (by decide +kernel) ⟨Nat.le_of_ble_eq_true rfl, Nat.le_of_ble_eq_true rfl⟩) ⟨wSx.blind, (w_recv hK hM.main 0 (by decide) rfl (ci := 5) rfl), fun U hU hW => wSx.go hM hK hI hxe hS (fun q h => h) hU hW⟩ rfl rfl hl.1 rfl (lv_room (Nat.le_of_ble_eq_true rfl)) dL_isGotSo_324 ⟨(show cells + 1 + 2 ≤ 384 by omega), (show slots + 6 + 12 ≤ 2304 by omega)⟩) hS (fun q _ h => (fun q h => h) q h) (fun q h => h) (fun r_24 uu t H_24 locs_24 ht hvm hw hB hzq hk1 hS => ?_)
                        rw [ht] at hB
                        have hM := hB
                        obtain rfl : r_24 = nI (pc (y2.2.2.2 u).2.1) := hw
                        rw [hy2u]
                        refine lv_iload hx hb dL_isGotSo_327 (lv_at hl 7 rfl) ?_
                        refine lv_iload_n hx hb dL_isGotSo_329 rfl (lv_at hl 10 rfl) ?_
                        refine lv_iadd hx hb dL_isGotSo_330 ?_
                        rw [show nI (pc (y.2.2.2 u).2.1) + nI (gd (mskM y.1 k) (y.2.2.2 u)) = nI ((pc (y.2.2.2 u).2.1) + (gd (mskM y.1 k) (y.2.2.2 u))) from nI_add _ _]
                        refine lv_icmp_ne (tgt := 393) hx hb dL_isGotSo_331 (by decide) (fun c_25 => ?_) (fun c_25 => ?_)
                        · exfalso
                          have f_c_25 : ¬ (pc (getM (mskM y.1 k) (y.2.2.2 u).2).1) = ((pc (y.2.2.2 u).2.1) + (gd (mskM y.1 k) (y.2.2.2 u))) := fun z9 => c_25 ((nI_eq (a := (pc (getM (mskM y.1 k) (y.2.2.2 u).2).1)) (b := ((pc (y.2.2.2 u).2.1) + (gd (mskM y.1 k) (y.2.2.2 u)))) (by omega) (by omega)).mpr z9)
                          omega
                        · skip
                          refine lv_aload_n hx hb dL_isGotSo_334 rfl (lv_at hl 13 rfl) ?_
                          refine lv_iload_n hx hb dL_isGotSo_335 rfl (lv_at hl 12 rfl) ?_
                          refine lv_bipush (v := (nI 8)) hx hb dL_isGotSo_336 (by decide) ?_
                          refine va_calli (va_runV (As := [.int (nI u), .int (nI 8)]) (rest := []) ⟨hx, hb, hml, hown, hts⟩ (n_rec8 l hst E g ln bf z2 (kpK (kpK ke)) (pushH (kpK ke) (pushH ke hs z) z1) hz2 hu) (cwV 2 hts gL_isGotSo_X5_receiver rfl rfl rfl (by decide +kernel) ⟨Nat.le_of_ble_eq_true rfl, Nat.le_of_ble_eq_true rfl⟩) ⟨wSx.blind, (w_recv hK hM.main 0 (by decide) rfl (ci := 5) rfl), fun U hU hW => wSx.go hM hK hI hxe hS (fun q h => h) hU hW⟩ rfl rfl hl.1 rfl (lv_room (Nat.le_of_ble_eq_true rfl)) dL_isGotSo_338 ⟨(show cells + 1 + 2 + 2 ≤ 384 by omega), (show slots + 6 + 12 + 12 ≤ 2304 by omega)⟩) hS (fun q _ h => (fun q h => h) q h) (fun q h => h) (fun r_26 uu t H_26 locs_26 ht hvm hw hB hzq hk1 hS => ?_)
                          rw [ht] at hB
                          have hM := hB
                          obtain rfl : r_26 = nI (rkN (y2.2.2.2 u).2) := hw
                          rw [hy2u]
                          refine lv_iload hx hb dL_isGotSo_341 (lv_at hl 9 rfl) ?_
                          refine lv_icmp_ne (tgt := 393) hx hb dL_isGotSo_343 (by decide) (fun c_27 => ?_) (fun c_27 => ?_)
                          · exfalso
                            have f_c_27 : ¬ (rkN (getM (mskM y.1 k) (y.2.2.2 u).2)) = (rkN (getM (mskM y.1 k) (y.2.2.2 u).2)) := fun z9 => c_27 ((nI_eq (a := (rkN (getM (mskM y.1 k) (y.2.2.2 u).2))) (b := (rkN (getM (mskM y.1 k) (y.2.2.2 u).2))) (by omega) (by omega)).mpr z9)
                            omega
                          · skip
                            have J389 : ∀  (H : Heap) (locs : List Loc) (ls : Array Slot) (cells slots : Nat), cells ≤ 378 → slots ≤ 2268 → MB E g ln bf z2 (kpK (kpK ke)) (pushH (kpK ke) (pushH ke hs z) z1) H → va_S (wF 94 g) s.heap H locs → lv_has ls 15 [(13, .int (nI (othN (mskM y.1 k) u y.2.2.2 3))), (12, .int ((bI (z.2.2.2 u).1))), (11, .int (nI 1)), (9, .int (nI (mskM y.1 k))), (8, .int (nI O)), (7, .int (nI T)), (6, .int (nI (pc (y.2.2.2 u).2.1))), (5, .int (nI (rkN (y.2.2.2 u).2))), (4, .int (nI (rkN (getM (mskM y.1 k) (y.2.2.2 u).2)))), (3, .int (nI (gd (mskM y.1 k) (y.2.2.2 u)))), (2, .int (nI k)), (1, .int (nI u)), (0, .ref ((g 0)))] → W p l e (headSpec wsL_isGotSo ({ frames := 9, cells := 384, slots := 2304, locals := 175 })).room s m ([.ref ((g 0)), .int (nI u), .int (nI k)] : List Value).toArray below meth c H locs (cells) (slots) (MQ below (va_Qi (fun (r : Int32) (_ : Nat × (Nat → SS)) => r = nI 1) (fun v t => MB E g ln bf z v.1 v.2 t.heap) (wF 94 g)) ([.ref ((g 0)), .int (nI u), .int (nI k)] : List Value).toArray s 384 2304 (wF 94 g)) (F0 m 389 ls []) := by
                              intro  H locs ls cells slots hc9 hs9 hM hS hl
                              have hkk : kpK (kpK ke) ≤ 6 := (push_top (kpK ke) (pushH ke hs z) z1 (push_top ke hs z hk6).2.1).2.1
                              have hk0 : 0 < kpK (kpK ke) := (push_top (kpK ke) (pushH ke hs z) z1 (push_top ke hs z hk6).2.1).1
                              obtain ⟨hk1p, hkz⟩ := push_two ke hs z z1 hk6
                              refine lv_iconst (v := (nI 1)) hx hb dL_isGotSo_389 (by decide) ?_
                              refine lv_goto (tgt := 394) hx hb dL_isGotSo_390 (by decide) ?_
                              refine lv_istore (lv' := [(11, .int (nI 1)), (13, .int (nI (othN (mskM y.1 k) u y.2.2.2 3))), (12, .int ((bI (z.2.2.2 u).1))), (9, .int (nI (mskM y.1 k))), (8, .int (nI O)), (7, .int (nI T)), (6, .int (nI (pc (y.2.2.2 u).2.1))), (5, .int (nI (rkN (y.2.2.2 u).2))), (4, .int (nI (rkN (getM (mskM y.1 k) (y.2.2.2 u).2)))), (3, .int (nI (gd (mskM y.1 k) (y.2.2.2 u)))), (2, .int (nI k)), (1, .int (nI u)), (0, .ref ((g 0)))]) hx hb dL_isGotSo_394 hl (by decide) rfl (fun ls hl => ?_)
                              refine lv_aload_n hx hb dL_isGotSo_396 rfl (lv_at hl 12 rfl) ?_
                              refine va_calli (va_runV (As := []) (rest := []) ⟨hx, hb, hml, hown, hts⟩ (n_undo l hst E g ln bf z2 (kpK (kpK ke)) (pushH (kpK ke) (pushH ke hs z) z1) hk0) (cwV 0 hts gL_isGotSo_X5_undo rfl rfl rfl (by decide +kernel) ⟨Nat.le_of_ble_eq_true rfl, Nat.le_of_ble_eq_true rfl⟩) ⟨wSx.blind, (w_recv hK hM.main 0 (by decide) rfl (ci := 5) rfl), fun U hU hW => wSx.go hM hK hI hxe hS (fun q h => h) hU hW⟩ rfl rfl hl.1 rfl (lv_room (Nat.le_of_ble_eq_true rfl)) dL_isGotSo_397 ⟨(show cells + 1 ≤ 384 by omega), (show slots + 6 ≤ 2304 by omega)⟩) hS (fun q _ h => (fun q h => h) q h) (fun q h => h) (fun r_28 uu t H_28 locs_28 ht hvm hw hB hzq hk1 hS => ?_)
                              rw [ht] at hB
                              have hM := hB
                              obtain rfl : r_28 = nI (kpK (kpK ke) - 1) := hw
                              refine lv_istore (lv' := [(14, .int (nI (kpK (kpK ke) - 1))), (11, .int (nI 1)), (13, .int (nI (othN (mskM y.1 k) u y.2.2.2 3))), (12, .int ((bI (z.2.2.2 u).1))), (9, .int (nI (mskM y.1 k))), (8, .int (nI O)), (7, .int (nI T)), (6, .int (nI (pc (y.2.2.2 u).2.1))), (5, .int (nI (rkN (y.2.2.2 u).2))), (4, .int (nI (rkN (getM (mskM y.1 k) (y.2.2.2 u).2)))), (3, .int (nI (gd (mskM y.1 k) (y.2.2.2 u)))), (2, .int (nI k)), (1, .int (nI u)), (0, .ref ((g 0)))]) hx hb dL_isGotSo_400 hl (by decide) rfl (fun ls hl => ?_)
                              refine lv_aload_n hx hb dL_isGotSo_402 rfl (lv_at hl 13 rfl) ?_
                              refine va_calli (va_runV (As := []) (rest := []) ⟨hx, hb, hml, hown, hts⟩ (n_undo l hst E g ln bf ((pushH (kpK ke) (pushH ke hs z) z1) (kpK (kpK ke) - 1)) (kpK (kpK ke) - 1) (pushH (kpK ke) (pushH ke hs z) z1) hk1p) (cwV 0 hts gL_isGotSo_X5_undo rfl rfl rfl (by decide +kernel) ⟨Nat.le_of_ble_eq_true rfl, Nat.le_of_ble_eq_true rfl⟩) ⟨wSx.blind, (w_recv hK hM.main 0 (by decide) rfl (ci := 5) rfl), fun U hU hW => wSx.go hM hK hI hxe hS (fun q h => h) hU hW⟩ rfl rfl hl.1 rfl (lv_room (Nat.le_of_ble_eq_true rfl)) dL_isGotSo_403 ⟨(show cells + 1 + 1 ≤ 384 by omega), (show slots + 6 + 6 ≤ 2304 by omega)⟩) hS (fun q _ h => (fun q h => h) q h) (fun q h => h) (fun r_29 uu t H_29 locs_29 ht hvm hw hB hzq hk1 hS => ?_)
                              rw [ht] at hB
                              have hM := hB
                              obtain rfl : r_29 = nI (kpK (kpK ke) - 1 - 1) := hw
                              rw [hkz] at hM
                              refine lv_istore (lv' := [(14, .int (nI (kpK (kpK ke) - 1 - 1))), (11, .int (nI 1)), (13, .int (nI (othN (mskM y.1 k) u y.2.2.2 3))), (12, .int ((bI (z.2.2.2 u).1))), (9, .int (nI (mskM y.1 k))), (8, .int (nI O)), (7, .int (nI T)), (6, .int (nI (pc (y.2.2.2 u).2.1))), (5, .int (nI (rkN (y.2.2.2 u).2))), (4, .int (nI (rkN (getM (mskM y.1 k) (y.2.2.2 u).2)))), (3, .int (nI (gd (mskM y.1 k) (y.2.2.2 u)))), (2, .int (nI k)), (1, .int (nI u)), (0, .ref ((g 0)))]) hx hb dL_isGotSo_406 hl (by decide) rfl (fun ls hl => ?_)
                              refine lv_iload hx hb dL_isGotSo_408 (lv_at hl 1 rfl) ?_
                              refine lv_if_eq (tgt := 444) hx hb dL_isGotSo_410 (by decide) (fun c_30 => ?_) (fun c_30 => ?_)
                              · exact absurd c_30 (by decide)
                              · skip
                                refine lv_iload hx hb dL_isGotSo_413 (lv_at hl 0 rfl) ?_
                                refine lv_if_lt (tgt := 444) hx hb dL_isGotSo_415 (by decide) (fun c_31 => ?_) (fun c_31 => ?_)
                                · exfalso
                                  have f_c_31 : (kpK (kpK ke) - 1 - 1) < 0 := (nI_ltI (a := (kpK (kpK ke) - 1 - 1)) (b := 0) (by omega) (by omega)).mp c_31
                                  omega
                                · skip
                                  refine lv_aload_n hx hb dL_isGotSo_418 rfl (lv_at hl 13 rfl) ?_
                                  refine lv_iload_n hx hb dL_isGotSo_419 rfl (lv_at hl 12 rfl) ?_
                                  refine lv_iconst (v := (nI 1)) hx hb dL_isGotSo_420 (by decide) ?_
                                  refine va_calli (va_runV (As := [.int (nI u), .int (nI 1)]) (rest := []) ⟨hx, hb, hml, hown, hts⟩ (n_rec1 l hst E g ln bf z (kpK (kpK ke) - 1 - 1) (pushH (kpK ke) (pushH ke hs z) z1) hz hu) (cwV 2 hts gL_isGotSo_X5_receiver rfl rfl rfl (by decide +kernel) ⟨Nat.le_of_ble_eq_true rfl, Nat.le_of_ble_eq_true rfl⟩) ⟨wSx.blind, (w_recv hK hM.main 0 (by decide) rfl (ci := 5) rfl), fun U hU hW => wSx.go hM hK hI hxe hS (fun q h => h) hU hW⟩ rfl rfl hl.1 rfl (lv_room (Nat.le_of_ble_eq_true rfl)) dL_isGotSo_421 ⟨(show cells + 1 + 1 + 2 ≤ 384 by omega), (show slots + 6 + 6 + 12 ≤ 2304 by omega)⟩) hS (fun q _ h => (fun q h => h) q h) (fun q h => h) (fun r_32 uu t H_32 locs_32 ht hvm hw hB hzq hk1 hS => ?_)
                                  rw [ht] at hB
                                  have hM := hB
                                  obtain rfl : r_32 = nI (pc (y.2.2.2 u).2.1) := hw
                                  refine lv_iload hx hb dL_isGotSo_424 (lv_at hl 7 rfl) ?_
                                  refine lv_icmp_ne (tgt := 444) hx hb dL_isGotSo_426 (by decide) (fun c_33 => ?_) (fun c_33 => ?_)
                                  · exact absurd rfl c_33
                                  · skip
                                    refine lv_iload hx hb dL_isGotSo_429 (lv_at hl 3 rfl) ?_
                                    refine lv_aload_n hx hb dL_isGotSo_431 rfl (lv_at hl 13 rfl) ?_
                                    refine lv_iload_n hx hb dL_isGotSo_432 rfl (lv_at hl 12 rfl) ?_
                                    refine lv_iconst (v := (nI 0)) hx hb dL_isGotSo_433 (by decide) ?_
                                    refine va_calli (va_runV (As := [.int (nI u), .int (nI 0)]) (rest := [.int ((bI (z.2.2.2 u).1))]) ⟨hx, hb, hml, hown, hts⟩ (n_rec0 l hst E g ln bf z (kpK (kpK ke) - 1 - 1) (pushH (kpK ke) (pushH ke hs z) z1) hz hu) (cwV 2 hts gL_isGotSo_X5_receiver rfl rfl rfl (by decide +kernel) ⟨Nat.le_of_ble_eq_true rfl, Nat.le_of_ble_eq_true rfl⟩) ⟨wSx.blind, (w_recv hK hM.main 0 (by decide) rfl (ci := 5) rfl), fun U hU hW => wSx.go hM hK hI hxe hS (fun q h => h) hU hW⟩ rfl rfl hl.1 rfl (lv_room (Nat.le_of_ble_eq_true rfl)) dL_isGotSo_434 ⟨(show cells + 1 + 1 + 2 + 2 ≤ 384 by omega), (show slots + 6 + 6 + 12 + 12 ≤ 2304 by omega)⟩) hS (fun q _ h => (fun q h => h) q h) (fun q h => h) (fun r_34 uu t H_34 locs_34 ht hvm hw hB hzq hk1 hS => ?_)
                                    rw [ht] at hB
                                    have hM := hB
                                    obtain rfl : r_34 = (bI (y.2.2.2 u).1) := hw
                                    refine lv_icmp_ne (tgt := 444) hx hb dL_isGotSo_437 (by decide) (fun c_35 => ?_) (fun c_35 => ?_)
                                    · exact absurd (congrArg bI (a_li hz hu)) c_35
                                    · skip
                                      refine lv_iconst (v := (nI 1)) hx hb dL_isGotSo_440 (by decide) ?_
                                      refine lv_goto (tgt := 445) hx hb dL_isGotSo_441 (by decide) ?_
                                      refine W.widen (k := 384) (n := 2304) (show cells + 1 + 1 + 2 + 2 ≤ 384 by omega) (show slots + 6 + 6 + 12 + 12 ≤ 2304 by omega) ?_
                                      exact W.zret (v := (nI 1)) hx hb hr rfl (fun t ht hW => ⟨⟨_, (kpK (kpK ke) - 1 - 1, (pushH (kpK ke) (pushH ke hs z) z1)), rfl, rfl, (by show MB E g ln bf z _ _ t.heap; rw [ht]; exact hM)⟩, hS.F ht⟩) hS.2.2 dL_isGotSo_445
                            refine lv_iload hx hb dL_isGotSo_346 (lv_at hl 9 rfl) ?_
                            refine lv_iload hx hb dL_isGotSo_348 (lv_at hl 8 rfl) ?_
                            refine lv_icmp_gt (tgt := 389) hx hb dL_isGotSo_350 (by decide) (fun c_36 => ?_) (fun c_36 => ?_)
                            · have f_c_36 : (rkN (y.2.2.2 u).2) < (rkN (getM (mskM y.1 k) (y.2.2.2 u).2)) := (nI_ltI (a := (rkN (y.2.2.2 u).2)) (b := (rkN (getM (mskM y.1 k) (y.2.2.2 u).2))) (by omega) (by omega)).mp c_36
                              exact J389  _ _ ls _ _ (by omega) (by omega) hM hS (lv_sub hl [1, 2, 3, 4, 5, 6, 7, 8, 9, 10, 11, 12, 13] rfl)
                            · have f_c_36 : ¬ (rkN (y.2.2.2 u).2) < (rkN (getM (mskM y.1 k) (y.2.2.2 u).2)) := fun z9 => c_36 ((nI_ltI (a := (rkN (y.2.2.2 u).2)) (b := (rkN (getM (mskM y.1 k) (y.2.2.2 u).2))) (by omega) (by omega)).mpr z9)
                              refine lv_iload_n hx hb dL_isGotSo_353 rfl (lv_at hl 10 rfl) ?_
                              refine lv_if_gt (tgt := 389) hx hb dL_isGotSo_354 (by decide) (fun c_37 => ?_) (fun c_37 => ?_)
                              · have f_c_37 : 0 < (gd (mskM y.1 k) (y.2.2.2 u)) := (nI_ltI (a := 0) (b := (gd (mskM y.1 k) (y.2.2.2 u))) (by omega) (by omega)).mp c_37
                                exact J389  _ _ ls _ _ (by omega) (by omega) hM hS (lv_sub hl [1, 2, 3, 4, 5, 6, 7, 8, 9, 10, 11, 12, 13] rfl)
                              · have f_c_37 : ¬ 0 < (gd (mskM y.1 k) (y.2.2.2 u)) := fun z9 => c_37 ((nI_ltI (a := 0) (b := (gd (mskM y.1 k) (y.2.2.2 u))) (by omega) (by omega)).mpr z9)
                                refine lv_aload_n hx hb dL_isGotSo_357 rfl (lv_at hl 13 rfl) ?_
                                refine lv_iload_n hx hb dL_isGotSo_358 rfl (lv_at hl 12 rfl) ?_
                                refine lv_iconst (v := (nI 5)) hx hb dL_isGotSo_359 (by decide) ?_
                                refine va_calli (va_runV (As := [.int (nI u), .int (nI 5)]) (rest := []) ⟨hx, hb, hml, hown, hts⟩ (n_rec5 l hst E g ln bf z2 (kpK (kpK ke)) (pushH (kpK ke) (pushH ke hs z) z1) hz2 hu) (cwV 2 hts gL_isGotSo_X5_receiver rfl rfl rfl (by decide +kernel) ⟨Nat.le_of_ble_eq_true rfl, Nat.le_of_ble_eq_true rfl⟩) ⟨wSx.blind, (w_recv hK hM.main 0 (by decide) rfl (ci := 5) rfl), fun U hU hW => wSx.go hM hK hI hxe hS (fun q h => h) hU hW⟩ rfl rfl hl.1 rfl (lv_room (Nat.le_of_ble_eq_true rfl)) dL_isGotSo_360 ⟨(show cells + 1 + 2 + 2 + 2 ≤ 384 by omega), (show slots + 6 + 12 + 12 + 12 ≤ 2304 by omega)⟩) hS (fun q _ h => (fun q h => h) q h) (fun q h => h) (fun r_38 uu t H_38 locs_38 ht hvm hw hB hzq hk1 hS => ?_)
                                rw [ht] at hB
                                have hM := hB
                                obtain rfl : r_38 = ((y2.2.2.2 u).2.2.2.1) := hw
                                rw [hy2u]
                                refine lv_iload hx hb dL_isGotSo_363 (lv_at hl 6 rfl) ?_
                                refine lv_icmp_gt (tgt := 389) hx hb dL_isGotSo_365 (by decide) (fun c_39 => ?_) (fun c_39 => ?_)
                                · skip
                                  exact J389  _ _ ls _ _ (by omega) (by omega) hM hS (lv_sub hl [1, 2, 3, 4, 5, 6, 7, 8, 9, 10, 11, 12, 13] rfl)
                                · skip
                                  refine lv_aload_n hx hb dL_isGotSo_368 rfl (lv_at hl 13 rfl) ?_
                                  refine lv_iload_n hx hb dL_isGotSo_369 rfl (lv_at hl 12 rfl) ?_
                                  refine lv_bipush (v := (nI 6)) hx hb dL_isGotSo_370 (by decide) ?_
                                  refine va_calli (va_runV (As := [.int (nI u), .int (nI 6)]) (rest := []) ⟨hx, hb, hml, hown, hts⟩ (n_rec6 l hst E g ln bf z2 (kpK (kpK ke)) (pushH (kpK ke) (pushH ke hs z) z1) hz2 hu) (cwV 2 hts gL_isGotSo_X5_receiver rfl rfl rfl (by decide +kernel) ⟨Nat.le_of_ble_eq_true rfl, Nat.le_of_ble_eq_true rfl⟩) ⟨wSx.blind, (w_recv hK hM.main 0 (by decide) rfl (ci := 5) rfl), fun U hU hW => wSx.go hM hK hI hxe hS (fun q h => h) hU hW⟩ rfl rfl hl.1 rfl (lv_room (Nat.le_of_ble_eq_true rfl)) dL_isGotSo_372 ⟨(show cells + 1 + 2 + 2 + 2 + 2 ≤ 384 by omega), (show slots + 6 + 12 + 12 + 12 + 12 ≤ 2304 by omega)⟩) hS (fun q _ h => (fun q h => h) q h) (fun q h => h) (fun r_40 uu t H_40 locs_40 ht hvm hw hB hzq hk1 hS => ?_)
                                  rw [ht] at hB
                                  have hM := hB
                                  obtain rfl : r_40 = ((y2.2.2.2 u).2.2.2.2.1) := hw
                                  rw [hy2u]
                                  refine lv_iload hx hb dL_isGotSo_375 (lv_at hl 5 rfl) ?_
                                  refine lv_icmp_gt (tgt := 389) hx hb dL_isGotSo_377 (by decide) (fun c_41 => ?_) (fun c_41 => ?_)
                                  · skip
                                    exact J389  _ _ ls _ _ (by omega) (by omega) hM hS (lv_sub hl [1, 2, 3, 4, 5, 6, 7, 8, 9, 10, 11, 12, 13] rfl)
                                  · skip
                                    refine lv_aload_n hx hb dL_isGotSo_380 rfl (lv_at hl 13 rfl) ?_
                                    refine lv_iload_n hx hb dL_isGotSo_381 rfl (lv_at hl 12 rfl) ?_
                                    refine lv_iconst (v := (nI 3)) hx hb dL_isGotSo_382 (by decide) ?_
                                    refine va_calli (va_runV (As := [.int (nI u), .int (nI 3)]) (rest := []) ⟨hx, hb, hml, hown, hts⟩ (n_rec3 l hst E g ln bf z2 (kpK (kpK ke)) (pushH (kpK ke) (pushH ke hs z) z1) hz2 hu) (cwV 2 hts gL_isGotSo_X5_receiver rfl rfl rfl (by decide +kernel) ⟨Nat.le_of_ble_eq_true rfl, Nat.le_of_ble_eq_true rfl⟩) ⟨wSx.blind, (w_recv hK hM.main 0 (by decide) rfl (ci := 5) rfl), fun U hU hW => wSx.go hM hK hI hxe hS (fun q h => h) hU hW⟩ rfl rfl hl.1 rfl (lv_room (Nat.le_of_ble_eq_true rfl)) dL_isGotSo_383 ⟨(show cells + 1 + 2 + 2 + 2 + 2 + 2 ≤ 384 by omega), (show slots + 6 + 12 + 12 + 12 + 12 + 12 ≤ 2304 by omega)⟩) hS (fun q _ h => (fun q h => h) q h) (fun q h => h) (fun r_42 uu t H_42 locs_42 ht hvm hw hB hzq hk1 hS => ?_)
                                    rw [ht] at hB
                                    have hM := hB
                                    obtain rfl : r_42 = nI ((y2.2.2.2 u).2.2.2.2.2.length) := hw
                                    rw [hy2u]
                                    refine lv_if_le (tgt := 393) hx hb dL_isGotSo_386 (by decide) (fun c_43 => ?_) (fun c_43 => ?_)
                                    · have f9 : (getM (mskM y.1 k) (y.2.2.2 u).2).2.2.2.2.length ≤ 0 := (nI_leI (a := (getM (mskM y.1 k) (y.2.2.2 u).2).2.2.2.2.length) (b := 0) (by omega) (by omega)).mp c_43
                                      rcases htold with q9 | q9 | q9 | q9
                                      · exfalso; omega
                                      · exact absurd q9 c_39
                                      · exact absurd q9 c_41
                                      · exfalso; omega
                                    · skip
                                      exact J389  _ _ ls _ _ (by omega) (by omega) hM hS (lv_sub hl [1, 2, 3, 4, 5, 6, 7, 8, 9, 10, 11, 12, 13] rfl)
                  · exfalso
                    have f_c_20 : ¬ 3 ≤ 3 := fun z9 => c_20 ((nI_leI (a := 3) (b := 3) (by omega) (by omega)).mpr z9)
                    omega
                | succ n ih =>
                  intro j H locs ls cells slots hj3n hc9 hs9 hM hS hl
                  have hol := othN_le (mskM y.1 k) u y.2.2.2 j
                  refine lv_iload hx hb dL_isGotSo_258 (lv_at hl 0 rfl) ?_
                  refine lv_iconst (v := (nI 3)) hx hb dL_isGotSo_260 (by decide) ?_
                  refine lv_icmp_ge (tgt := 304) hx hb dL_isGotSo_261 (by decide) (fun c_44 => ?_) (fun c_44 => ?_)
                  · exfalso
                    have f_c_44 : 3 ≤ j := (nI_leI (a := 3) (b := j) (by omega) (by omega)).mp c_44
                    omega
                  · skip
                    refine lv_iload hx hb dL_isGotSo_264 (lv_at hl 1 rfl) ?_
                    refine lv_iload hx hb dL_isGotSo_266 (lv_at hl 0 rfl) ?_
                    refine lv_iload_n hx hb dL_isGotSo_268 rfl (lv_at hl 12 rfl) ?_
                    refine lv_icmp_eq (tgt := 294) hx hb dL_isGotSo_269 (by decide) (fun c_45 => ?_) (fun c_45 => ?_)
                    · have f_c_45 : j = u := (nI_eq (a := j) (b := u) (by omega) (by omega)).mp c_45
                      refine lv_iconst (v := (nI 0)) hx hb dL_isGotSo_294 (by decide) ?_
                      refine lv_iadd hx hb dL_isGotSo_295 ?_
                      rw [show nI (othN (mskM y.1 k) u y.2.2.2 j) + nI 0 = nI ((othN (mskM y.1 k) u y.2.2.2 j) + 0) from nI_add _ _]
                      rw [show nI ((othN (mskM y.1 k) u y.2.2.2 j) + 0) = nI (othN (mskM y.1 k) u y.2.2.2 (j + 1)) from congrArg nI (othN_u f_c_45)]
                      refine lv_istore (lv' := [(13, .int (nI (othN (mskM y.1 k) u y.2.2.2 (j + 1)))), (14, .int (nI j)), (12, .int ((bI (z.2.2.2 u).1))), (11, .int (nI 1)), (9, .int (nI (mskM y.1 k))), (8, .int (nI O)), (7, .int (nI T)), (6, .int (nI (pc (y.2.2.2 u).2.1))), (5, .int (nI (rkN (y.2.2.2 u).2))), (4, .int (nI (rkN (getM (mskM y.1 k) (y.2.2.2 u).2)))), (3, .int (nI (gd (mskM y.1 k) (y.2.2.2 u)))), (2, .int (nI k)), (1, .int (nI u)), (0, .ref ((g 0)))]) hx hb dL_isGotSo_296 hl (by decide) rfl (fun ls hl => ?_)
                      refine lv_iinc (v := (nI (j + 1))) (lv' := [(14, .int (nI (j + 1))), (13, .int (nI (othN (mskM y.1 k) u y.2.2.2 (j + 1)))), (12, .int ((bI (z.2.2.2 u).1))), (11, .int (nI 1)), (9, .int (nI (mskM y.1 k))), (8, .int (nI O)), (7, .int (nI T)), (6, .int (nI (pc (y.2.2.2 u).2.1))), (5, .int (nI (rkN (y.2.2.2 u).2))), (4, .int (nI (rkN (getM (mskM y.1 k) (y.2.2.2 u).2)))), (3, .int (nI (gd (mskM y.1 k) (y.2.2.2 u)))), (2, .int (nI k)), (1, .int (nI u)), (0, .ref ((g 0)))]) hx hb dL_isGotSo_298 hl (k := 1) rfl (nI_1 _) (by decide) rfl (fun ls hl => ?_)
                      refine lv_goto (tgt := 258) hx hb dL_isGotSo_301 (by decide) ?_
                      exact ih (j + 1) _ _ ls _ _ (by omega) (by omega) (by omega) hM hS (lv_sub hl [0, 1, 2, 3, 4, 5, 6, 7, 8, 9, 10, 11, 12, 13] rfl)
                    · have f_c_45 : ¬ j = u := fun z9 => c_45 ((nI_eq (a := j) (b := u) (by omega) (by omega)).mpr z9)
                      refine lv_aload_n hx hb dL_isGotSo_272 rfl (lv_at hl 13 rfl) ?_
                      refine lv_iload hx hb dL_isGotSo_273 (lv_at hl 0 rfl) ?_
                      refine lv_iconst (v := (nI 0)) hx hb dL_isGotSo_275 (by decide) ?_
                      refine va_calli (va_runV (As := [.int (nI j), .int (nI 0)]) (rest := [.int (nI (othN (mskM y.1 k) u y.2.2.2 j))]) ⟨hx, hb, hml, hown, hts⟩ (n_rec0 l hst E g ln bf z1 (kpK ke) (pushH ke hs z) hz1 (u := j) (by omega)) (cwV 2 hts gL_isGotSo_X5_receiver rfl rfl rfl (by decide +kernel) ⟨Nat.le_of_ble_eq_true rfl, Nat.le_of_ble_eq_true rfl⟩) ⟨wSx.blind, (w_recv hK hM.main 0 (by decide) rfl (ci := 5) rfl), fun U hU hW => wSx.go hM hK hI hxe hS (fun q h => h) hU hW⟩ rfl rfl hl.1 rfl (lv_room (Nat.le_of_ble_eq_true rfl)) dL_isGotSo_276 ⟨(show cells + 2 ≤ 384 by omega), (show slots + 12 ≤ 2304 by omega)⟩) hS (fun q _ h => (fun q h => h) q h) (fun q h => h) (fun r_46 uu t H_46 locs_46 ht hvm hw hB hzq hk1 hS => ?_)
                      rw [ht] at hB
                      have hM := hB
                      obtain rfl : r_46 = (bI (y1.2.2.2 j).1) := hw
                      rw [hy1o j f_c_45]
                      refine lv_iconst (v := (nI 1)) hx hb dL_isGotSo_279 (by decide) ?_
                      refine lv_icmp_ne (tgt := 294) hx hb dL_isGotSo_280 (by decide) (fun c_47 => ?_) (fun c_47 => ?_)
                      · skip
                        refine lv_iconst (v := (nI 0)) hx hb dL_isGotSo_294 (by decide) ?_
                        refine lv_iadd hx hb dL_isGotSo_295 ?_
                        rw [show nI (othN (mskM y.1 k) u y.2.2.2 j) + nI 0 = nI ((othN (mskM y.1 k) u y.2.2.2 j) + 0) from nI_add _ _]
                        rw [show nI ((othN (mskM y.1 k) u y.2.2.2 j) + 0) = nI (othN (mskM y.1 k) u y.2.2.2 (j + 1)) from congrArg nI (othN_l c_47)]
                        refine lv_istore (lv' := [(13, .int (nI (othN (mskM y.1 k) u y.2.2.2 (j + 1)))), (14, .int (nI j)), (12, .int ((bI (z.2.2.2 u).1))), (11, .int (nI 1)), (9, .int (nI (mskM y.1 k))), (8, .int (nI O)), (7, .int (nI T)), (6, .int (nI (pc (y.2.2.2 u).2.1))), (5, .int (nI (rkN (y.2.2.2 u).2))), (4, .int (nI (rkN (getM (mskM y.1 k) (y.2.2.2 u).2)))), (3, .int (nI (gd (mskM y.1 k) (y.2.2.2 u)))), (2, .int (nI k)), (1, .int (nI u)), (0, .ref ((g 0)))]) hx hb dL_isGotSo_296 hl (by decide) rfl (fun ls hl => ?_)
                        refine lv_iinc (v := (nI (j + 1))) (lv' := [(14, .int (nI (j + 1))), (13, .int (nI (othN (mskM y.1 k) u y.2.2.2 (j + 1)))), (12, .int ((bI (z.2.2.2 u).1))), (11, .int (nI 1)), (9, .int (nI (mskM y.1 k))), (8, .int (nI O)), (7, .int (nI T)), (6, .int (nI (pc (y.2.2.2 u).2.1))), (5, .int (nI (rkN (y.2.2.2 u).2))), (4, .int (nI (rkN (getM (mskM y.1 k) (y.2.2.2 u).2)))), (3, .int (nI (gd (mskM y.1 k) (y.2.2.2 u)))), (2, .int (nI k)), (1, .int (nI u)), (0, .ref ((g 0)))]) hx hb dL_isGotSo_298 hl (k := 1) rfl (nI_1 _) (by decide) rfl (fun ls hl => ?_)
                        refine lv_goto (tgt := 258) hx hb dL_isGotSo_301 (by decide) ?_
                        exact ih (j + 1) _ _ ls _ _ (by omega) (by omega) (by omega) hM hS (lv_sub hl [0, 1, 2, 3, 4, 5, 6, 7, 8, 9, 10, 11, 12, 13] rfl)
                      · skip
                        refine lv_aload_n hx hb dL_isGotSo_283 rfl (lv_at hl 13 rfl) ?_
                        refine lv_iload hx hb dL_isGotSo_284 (lv_at hl 0 rfl) ?_
                        refine lv_iload_n hx hb dL_isGotSo_286 rfl (lv_at hl 11 rfl) ?_
                        refine lv_iconst (v := (nI 0)) hx hb dL_isGotSo_287 (by decide) ?_
                        refine va_calli (va_runV (As := [.int (nI j), .int (nI k), .int (nI 0)]) (rest := [.int (nI (othN (mskM y.1 k) u y.2.2.2 j))]) ⟨hx, hb, hml, hown, hts⟩ (n_ifGot0 l hst E g ln bf z1 (kpK ke) (pushH ke hs z) hz1 (u := j) (by omega) hk) (cwV 3 hts gL_isGotSo_X5_ifGot rfl rfl rfl (by decide +kernel) ⟨Nat.le_of_ble_eq_true rfl, Nat.le_of_ble_eq_true rfl⟩) ⟨wSx.blind, (w_recv hK hM.main 0 (by decide) rfl (ci := 5) rfl), fun U hU hW => wSx.go hM hK hI hxe hS (fun q h => h) hU hW⟩ rfl rfl hl.1 rfl (lv_room (Nat.le_of_ble_eq_true rfl)) dL_isGotSo_288 ⟨(show cells + 2 + 3 ≤ 384 by omega), (show slots + 12 + 18 ≤ 2304 by omega)⟩) hS (fun q _ h => (fun q h => h) q h) (fun q h => h) (fun r_48 uu t H_48 locs_48 ht hvm hw hB hzq hk1 hS => ?_)
                        rw [ht] at hB
                        have hM := hB
                        obtain rfl : r_48 = nI (gd (mskM y1.1 k) (y1.2.2.2 j)) := hw
                        rw [hy1n, hy1o j f_c_45]
                        have hq9 := gd_le (mskM y.1 k) (y.2.2.2 j)
                        refine lv_goto (tgt := 295) hx hb dL_isGotSo_291 (by decide) ?_
                        refine lv_iadd hx hb dL_isGotSo_295 ?_
                        rw [show nI (othN (mskM y.1 k) u y.2.2.2 j) + nI (gd (mskM y.1 k) (y.2.2.2 j)) = nI ((othN (mskM y.1 k) u y.2.2.2 j) + (gd (mskM y.1 k) (y.2.2.2 j))) from nI_add _ _]
                        rw [show nI ((othN (mskM y.1 k) u y.2.2.2 j) + (gd (mskM y.1 k) (y.2.2.2 j))) = nI (othN (mskM y.1 k) u y.2.2.2 (j + 1)) from congrArg nI (othN_g f_c_45 c_47)]
                        refine lv_istore (lv' := [(13, .int (nI (othN (mskM y.1 k) u y.2.2.2 (j + 1)))), (14, .int (nI j)), (12, .int ((bI (z.2.2.2 u).1))), (11, .int (nI 1)), (9, .int (nI (mskM y.1 k))), (8, .int (nI O)), (7, .int (nI T)), (6, .int (nI (pc (y.2.2.2 u).2.1))), (5, .int (nI (rkN (y.2.2.2 u).2))), (4, .int (nI (rkN (getM (mskM y.1 k) (y.2.2.2 u).2)))), (3, .int (nI (gd (mskM y.1 k) (y.2.2.2 u)))), (2, .int (nI k)), (1, .int (nI u)), (0, .ref ((g 0)))]) hx hb dL_isGotSo_296 hl (by decide) rfl (fun ls hl => ?_)
                        refine lv_iinc (v := (nI (j + 1))) (lv' := [(14, .int (nI (j + 1))), (13, .int (nI (othN (mskM y.1 k) u y.2.2.2 (j + 1)))), (12, .int ((bI (z.2.2.2 u).1))), (11, .int (nI 1)), (9, .int (nI (mskM y.1 k))), (8, .int (nI O)), (7, .int (nI T)), (6, .int (nI (pc (y.2.2.2 u).2.1))), (5, .int (nI (rkN (y.2.2.2 u).2))), (4, .int (nI (rkN (getM (mskM y.1 k) (y.2.2.2 u).2)))), (3, .int (nI (gd (mskM y.1 k) (y.2.2.2 u)))), (2, .int (nI k)), (1, .int (nI u)), (0, .ref ((g 0)))]) hx hb dL_isGotSo_298 hl (k := 1) rfl (nI_1 _) (by decide) rfl (fun ls hl => ?_)
                        refine lv_goto (tgt := 258) hx hb dL_isGotSo_301 (by decide) ?_
                        exact ih (j + 1) _ _ ls _ _ (by omega) (by omega) (by omega) hM hS (lv_sub hl [0, 1, 2, 3, 4, 5, 6, 7, 8, 9, 10, 11, 12, 13] rfl)
              exact L258 3 0 _ _ ls _ _ rfl (by omega) (by omega) hM hS (lv_sub hl [0, 1, 2, 3, 4, 5, 6, 7, 8, 9, 10, 11, 12, 13] rfl)
            rcases nhS_spec (hpM y.1 (y.2.2.2 u)) (nhN k) k with ⟨eh, hno⟩ | ⟨h, hh1, hh2, eh, hh3, hno⟩
            · rw [eh] at hl
              have J201 : ∀  (H : Heap) (locs : List Loc) (ls : Array Slot) (cells slots : Nat), cells ≤ 348 → slots ≤ 2088 → MB E g ln bf z ke hs H → va_S (wF 94 g) s.heap H locs → lv_has ls 15 [(11, .int (nI 1)), (10, .int ((-1))), (9, .int (nI (mskM y.1 k))), (8, .int (nI O)), (7, .int (nI T)), (6, .int (nI (pc (y.2.2.2 u).2.1))), (5, .int (nI (rkN (y.2.2.2 u).2))), (4, .int (nI (rkN (getM (mskM y.1 k) (y.2.2.2 u).2)))), (3, .int (nI (gd (mskM y.1 k) (y.2.2.2 u)))), (2, .int (nI k)), (1, .int (nI u)), (0, .ref ((g 0)))] → W p l e (headSpec wsL_isGotSo ({ frames := 9, cells := 384, slots := 2304, locals := 175 })).room s m ([.ref ((g 0)), .int (nI u), .int (nI k)] : List Value).toArray below meth c H locs (cells) (slots) (MQ below (va_Qi (fun (r : Int32) (_ : Nat × (Nat → SS)) => r = nI 1) (fun v t => MB E g ln bf z v.1 v.2 t.heap) (wF 94 g)) ([.ref ((g 0)), .int (nI u), .int (nI k)] : List Value).toArray s 384 2304 (wF 94 g)) (F0 m 201 ls []) := by
                intro  H locs ls cells slots hc9 hs9 hM hS hl
                refine lv_iload hx hb dL_isGotSo_201 (lv_at hl 0 rfl) ?_
                refine lv_if_eq (tgt := 241) hx hb dL_isGotSo_203 (by decide) (fun c_49 => ?_) (fun c_49 => ?_)
                · exact absurd c_49 (by decide)
                · skip
                  refine lv_iload hx hb dL_isGotSo_206 (lv_at hl 1 rfl) ?_
                  refine lv_if_lt (tgt := 237) hx hb dL_isGotSo_208 (by decide) (fun c_50 => ?_) (fun c_50 => ?_)
                  · skip
                    refine lv_iconst (v := (nI 1)) hx hb dL_isGotSo_237 (by decide) ?_
                    refine lv_goto (tgt := 242) hx hb dL_isGotSo_238 (by decide) ?_
                    refine lv_istore (lv' := [(11, .int (nI 1)), (10, .int ((-1))), (9, .int (nI (mskM y.1 k))), (8, .int (nI O)), (7, .int (nI T)), (6, .int (nI (pc (y.2.2.2 u).2.1))), (5, .int (nI (rkN (y.2.2.2 u).2))), (4, .int (nI (rkN (getM (mskM y.1 k) (y.2.2.2 u).2)))), (3, .int (nI (gd (mskM y.1 k) (y.2.2.2 u)))), (2, .int (nI k)), (1, .int (nI u)), (0, .ref ((g 0)))]) hx hb dL_isGotSo_242 hl (by decide) rfl (fun ls hl => ?_)
                    exact J244  _ _ ls _ _ (by omega) (by omega) hM hS (lv_sub hl [0, 2, 3, 4, 5, 6, 7, 8, 9, 10, 11] rfl)
                  · exact absurd (by decide) c_50
              refine lv_iload_n hx hb dL_isGotSo_140 rfl (lv_at hl 9 rfl) ?_
              refine lv_istore (lv' := [(12, .int (nI k)), (11, .int (nI 1)), (10, .int ((-1))), (9, .int (nI (mskM y.1 k))), (8, .int (nI O)), (7, .int (nI T)), (6, .int (nI (pc (y.2.2.2 u).2.1))), (5, .int (nI (rkN (y.2.2.2 u).2))), (4, .int (nI (rkN (getM (mskM y.1 k) (y.2.2.2 u).2)))), (3, .int (nI (gd (mskM y.1 k) (y.2.2.2 u)))), (2, .int (nI k)), (1, .int (nI u)), (0, .ref ((g 0)))]) hx hb dL_isGotSo_141 hl (by decide) rfl (fun ls hl => ?_)
              have L143 : ∀ (n : Nat) (j : Nat) (H : Heap) (locs : List Loc) (ls : Array Slot) (cells slots : Nat), j + n = k + 100 → k ≤ j → cells + n * 3 ≤ 348 → slots + n * 18 ≤ 2088 → MB E g ln bf z ke hs H → va_S (wF 94 g) s.heap H locs → lv_has ls 15 [(12, .int (nI j)), (11, .int (nI 1)), (10, .int ((-1))), (9, .int (nI (mskM y.1 k))), (8, .int (nI O)), (7, .int (nI T)), (6, .int (nI (pc (y.2.2.2 u).2.1))), (5, .int (nI (rkN (y.2.2.2 u).2))), (4, .int (nI (rkN (getM (mskM y.1 k) (y.2.2.2 u).2)))), (3, .int (nI (gd (mskM y.1 k) (y.2.2.2 u)))), (2, .int (nI k)), (1, .int (nI u)), (0, .ref ((g 0)))] → W p l e (headSpec wsL_isGotSo ({ frames := 9, cells := 384, slots := 2304, locals := 175 })).room s m ([.ref ((g 0)), .int (nI u), .int (nI k)] : List Value).toArray below meth c H locs (cells) (slots) (MQ below (va_Qi (fun (r : Int32) (_ : Nat × (Nat → SS)) => r = nI 1) (fun v t => MB E g ln bf z v.1 v.2 t.heap) (wF 94 g)) ([.ref ((g 0)), .int (nI u), .int (nI k)] : List Value).toArray s 384 2304 (wF 94 g)) (F0 m 143 ls []) := by
                intro n
                induction n with
                | zero =>
                  intro j H locs ls cells slots hjn hkj hc9 hs9 hM hS hl
                  refine lv_iload hx hb dL_isGotSo_143 (lv_at hl 0 rfl) ?_
                  refine lv_sipush (v := (nI 10000)) hx hb dL_isGotSo_145 (by decide) ?_
                  refine lv_icmp_ge (tgt := 201) hx hb dL_isGotSo_148 (by decide) (fun c_51 => ?_) (fun c_51 => ?_)
                  · have f_c_51 : 10000 ≤ j := (nI_leI (a := 10000) (b := j) (by omega) (by omega)).mp c_51
                    exact J201  _ _ ls _ _ (by omega) (by omega) hM hS (lv_sub hl [1, 2, 3, 4, 5, 6, 7, 8, 9, 10, 11, 12] rfl)
                  · have f_c_51 : ¬ 10000 ≤ j := fun z9 => c_51 ((nI_leI (a := 10000) (b := j) (by omega) (by omega)).mpr z9)
                    refine lv_iload hx hb dL_isGotSo_151 (lv_at hl 0 rfl) ?_
                    refine lv_iload_n hx hb dL_isGotSo_153 rfl (lv_at hl 10 rfl) ?_
                    refine lv_bipush (v := (nI 100)) hx hb dL_isGotSo_154 (by decide) ?_
                    refine lv_iadd hx hb dL_isGotSo_156 ?_
                    rw [show nI k + nI 100 = nI (k + 100) from nI_add _ _]
                    refine lv_icmp_ge (tgt := 201) hx hb dL_isGotSo_157 (by decide) (fun c_52 => ?_) (fun c_52 => ?_)
                    · skip
                      exact J201  _ _ ls _ _ (by omega) (by omega) hM hS (lv_sub hl [1, 2, 3, 4, 5, 6, 7, 8, 9, 10, 11, 12] rfl)
                    · exfalso
                      have f_c_52 : ¬ (k + 100) ≤ j := fun z9 => c_52 ((nI_leI (a := (k + 100)) (b := j) (by omega) (by omega)).mpr z9)
                      omega
                | succ n ih =>
                  intro j H locs ls cells slots hjn hkj hc9 hs9 hM hS hl
                  refine lv_iload hx hb dL_isGotSo_143 (lv_at hl 0 rfl) ?_
                  refine lv_sipush (v := (nI 10000)) hx hb dL_isGotSo_145 (by decide) ?_
                  refine lv_icmp_ge (tgt := 201) hx hb dL_isGotSo_148 (by decide) (fun c_53 => ?_) (fun c_53 => ?_)
                  · have f_c_53 : 10000 ≤ j := (nI_leI (a := 10000) (b := j) (by omega) (by omega)).mp c_53
                    exact J201  _ _ ls _ _ (by omega) (by omega) hM hS (lv_sub hl [1, 2, 3, 4, 5, 6, 7, 8, 9, 10, 11, 12] rfl)
                  · have f_c_53 : ¬ 10000 ≤ j := fun z9 => c_53 ((nI_leI (a := 10000) (b := j) (by omega) (by omega)).mpr z9)
                    refine lv_iload hx hb dL_isGotSo_151 (lv_at hl 0 rfl) ?_
                    refine lv_iload_n hx hb dL_isGotSo_153 rfl (lv_at hl 10 rfl) ?_
                    refine lv_bipush (v := (nI 100)) hx hb dL_isGotSo_154 (by decide) ?_
                    refine lv_iadd hx hb dL_isGotSo_156 ?_
                    rw [show nI k + nI 100 = nI (k + 100) from nI_add _ _]
                    refine lv_icmp_ge (tgt := 201) hx hb dL_isGotSo_157 (by decide) (fun c_54 => ?_) (fun c_54 => ?_)
                    · exfalso
                      have f_c_54 : (k + 100) ≤ j := (nI_leI (a := (k + 100)) (b := j) (by omega) (by omega)).mp c_54
                      omega
                    · skip
                      refine lv_iload hx hb dL_isGotSo_160 (lv_at hl 2 rfl) ?_
                      refine lv_if_lt (tgt := 172) hx hb dL_isGotSo_162 (by decide) (fun c_55 => ?_) (fun c_55 => ?_)
                      · skip
                        refine lv_iload hx hb dL_isGotSo_172 (lv_at hl 1 rfl) ?_
                        refine lv_if_eq (tgt := 192) hx hb dL_isGotSo_174 (by decide) (fun c_56 => ?_) (fun c_56 => ?_)
                        · exact absurd c_56 (by decide)
                        · skip
                          refine lv_aload_n hx hb dL_isGotSo_177 rfl (lv_at hl 12 rfl) ?_
                          refine lv_iload_n hx hb dL_isGotSo_178 rfl (lv_at hl 11 rfl) ?_
                          refine lv_iload hx hb dL_isGotSo_179 (lv_at hl 0 rfl) ?_
                          refine lv_iconst (v := (nI 0)) hx hb dL_isGotSo_181 (by decide) ?_
                          refine va_calli (va_runV (As := [.int (nI u), .int (nI j), .int (nI 0)]) (rest := []) ⟨hx, hb, hml, hown, hts⟩ (n_ifGot0 l hst E g ln bf z ke hs hz hu (k := j) (by omega)) (cwV 3 hts gL_isGotSo_X5_ifGot rfl rfl rfl (by decide +kernel) ⟨Nat.le_of_ble_eq_true rfl, Nat.le_of_ble_eq_true rfl⟩) ⟨wSx.blind, (w_recv hK hM.main 0 (by decide) rfl (ci := 5) rfl), fun U hU hW => wSx.go hM hK hI hxe hS (fun q h => h) hU hW⟩ rfl rfl hl.1 rfl (lv_room (Nat.le_of_ble_eq_true rfl)) dL_isGotSo_182 ⟨(show cells + 3 ≤ 384 by omega), (show slots + 18 ≤ 2304 by omega)⟩) hS (fun q _ h => (fun q h => h) q h) (fun q h => h) (fun r_57 uu t H_57 locs_57 ht hvm hw hB hzq hk1 hS => ?_)
                          rw [ht] at hB
                          have hM := hB
                          obtain rfl : r_57 = nI (gd (mskM y.1 j) (y.2.2.2 u)) := hw
                          refine lv_if_ne (tgt := 192) hx hb dL_isGotSo_185 (by decide) (fun c_58 => ?_) (fun c_58 => ?_)
                          · exact absurd (congrArg nI (hp_zero (by omega) hn12 hMI (hno j (by omega) (by omega)))) c_58
                          · skip
                            refine lv_iconst (v := (nI 1)) hx hb dL_isGotSo_188 (by decide) ?_
                            refine lv_goto (tgt := 193) hx hb dL_isGotSo_189 (by decide) ?_
                            refine lv_istore (lv' := [(11, .int (nI 1)), (12, .int (nI j)), (10, .int ((-1))), (9, .int (nI (mskM y.1 k))), (8, .int (nI O)), (7, .int (nI T)), (6, .int (nI (pc (y.2.2.2 u).2.1))), (5, .int (nI (rkN (y.2.2.2 u).2))), (4, .int (nI (rkN (getM (mskM y.1 k) (y.2.2.2 u).2)))), (3, .int (nI (gd (mskM y.1 k) (y.2.2.2 u)))), (2, .int (nI k)), (1, .int (nI u)), (0, .ref ((g 0)))]) hx hb dL_isGotSo_193 hl (by decide) rfl (fun ls hl => ?_)
                            refine lv_iinc (v := (nI (j + 1))) (lv' := [(12, .int (nI (j + 1))), (11, .int (nI 1)), (10, .int ((-1))), (9, .int (nI (mskM y.1 k))), (8, .int (nI O)), (7, .int (nI T)), (6, .int (nI (pc (y.2.2.2 u).2.1))), (5, .int (nI (rkN (y.2.2.2 u).2))), (4, .int (nI (rkN (getM (mskM y.1 k) (y.2.2.2 u).2)))), (3, .int (nI (gd (mskM y.1 k) (y.2.2.2 u)))), (2, .int (nI k)), (1, .int (nI u)), (0, .ref ((g 0)))]) hx hb dL_isGotSo_195 hl (k := 1) rfl (nI_1 _) (by decide) rfl (fun ls hl => ?_)
                            refine lv_goto (tgt := 143) hx hb dL_isGotSo_198 (by decide) ?_
                            exact ih (j + 1) _ _ ls _ _ (by omega) (by omega) (by omega) (by omega) hM hS (lv_sub hl [0, 1, 2, 3, 4, 5, 6, 7, 8, 9, 10, 11, 12] rfl)
                      · exact absurd (by decide) c_55
              exact L143 100 k _ _ ls _ _ rfl (Nat.le_refl k) (by omega) (by omega) hM hS (lv_sub hl [0, 1, 2, 3, 4, 5, 6, 7, 8, 9, 10, 11, 12] rfl)
            · rw [eh] at hl
              have hgp := hp_pos (by omega) hn12 hMI hh3
              have hgl := gd_le (mskM y.1 h) (y.2.2.2 u)
              have J201 : ∀  (H : Heap) (locs : List Loc) (ls : Array Slot) (cells slots : Nat), cells ≤ 348 → slots ≤ 2088 → MB E g ln bf z ke hs H → va_S (wF 94 g) s.heap H locs → lv_has ls 15 [(11, .int (nI 1)), (10, .int (nI h)), (9, .int (nI (mskM y.1 k))), (8, .int (nI O)), (7, .int (nI T)), (6, .int (nI (pc (y.2.2.2 u).2.1))), (5, .int (nI (rkN (y.2.2.2 u).2))), (4, .int (nI (rkN (getM (mskM y.1 k) (y.2.2.2 u).2)))), (3, .int (nI (gd (mskM y.1 k) (y.2.2.2 u)))), (2, .int (nI k)), (1, .int (nI u)), (0, .ref ((g 0)))] → W p l e (headSpec wsL_isGotSo ({ frames := 9, cells := 384, slots := 2304, locals := 175 })).room s m ([.ref ((g 0)), .int (nI u), .int (nI k)] : List Value).toArray below meth c H locs (cells) (slots) (MQ below (va_Qi (fun (r : Int32) (_ : Nat × (Nat → SS)) => r = nI 1) (fun v t => MB E g ln bf z v.1 v.2 t.heap) (wF 94 g)) ([.ref ((g 0)), .int (nI u), .int (nI k)] : List Value).toArray s 384 2304 (wF 94 g)) (F0 m 201 ls []) := by
                intro  H locs ls cells slots hc9 hs9 hM hS hl
                refine lv_iload hx hb dL_isGotSo_201 (lv_at hl 0 rfl) ?_
                refine lv_if_eq (tgt := 241) hx hb dL_isGotSo_203 (by decide) (fun c_59 => ?_) (fun c_59 => ?_)
                · exact absurd c_59 (by decide)
                · skip
                  refine lv_iload hx hb dL_isGotSo_206 (lv_at hl 1 rfl) ?_
                  refine lv_if_lt (tgt := 237) hx hb dL_isGotSo_208 (by decide) (fun c_60 => ?_) (fun c_60 => ?_)
                  · exfalso
                    have f_c_60 : h < 0 := (nI_ltI (a := h) (b := 0) (by omega) (by omega)).mp c_60
                    omega
                  · skip
                    refine lv_iload hx hb dL_isGotSo_211 (lv_at hl 1 rfl) ?_
                    refine lv_iload_n hx hb dL_isGotSo_213 rfl (lv_at hl 9 rfl) ?_
                    refine lv_icmp_lt (tgt := 241) hx hb dL_isGotSo_214 (by decide) (fun c_61 => ?_) (fun c_61 => ?_)
                    · exfalso
                      have f_c_61 : h < k := (nI_ltI (a := h) (b := k) (by omega) (by omega)).mp c_61
                      omega
                    · skip
                      refine lv_iload hx hb dL_isGotSo_217 (lv_at hl 1 rfl) ?_
                      refine lv_iload_n hx hb dL_isGotSo_219 rfl (lv_at hl 9 rfl) ?_
                      refine lv_bipush (v := (nI 100)) hx hb dL_isGotSo_220 (by decide) ?_
                      refine lv_iadd hx hb dL_isGotSo_222 ?_
                      rw [show nI k + nI 100 = nI (k + 100) from nI_add _ _]
                      refine lv_icmp_ge (tgt := 241) hx hb dL_isGotSo_223 (by decide) (fun c_62 => ?_) (fun c_62 => ?_)
                      · exfalso
                        have f_c_62 : (k + 100) ≤ h := (nI_leI (a := (k + 100)) (b := h) (by omega) (by omega)).mp c_62
                        omega
                      · skip
                        refine lv_aload_n hx hb dL_isGotSo_226 rfl (lv_at hl 11 rfl) ?_
                        refine lv_iload_n hx hb dL_isGotSo_227 rfl (lv_at hl 10 rfl) ?_
                        refine lv_iload hx hb dL_isGotSo_228 (lv_at hl 1 rfl) ?_
                        refine lv_iconst (v := (nI 0)) hx hb dL_isGotSo_230 (by decide) ?_
                        refine va_calli (va_runV (As := [.int (nI u), .int (nI h), .int (nI 0)]) (rest := []) ⟨hx, hb, hml, hown, hts⟩ (n_ifGot0 l hst E g ln bf z ke hs hz hu (k := h) (by omega)) (cwV 3 hts gL_isGotSo_X5_ifGot rfl rfl rfl (by decide +kernel) ⟨Nat.le_of_ble_eq_true rfl, Nat.le_of_ble_eq_true rfl⟩) ⟨wSx.blind, (w_recv hK hM.main 0 (by decide) rfl (ci := 5) rfl), fun U hU hW => wSx.go hM hK hI hxe hS (fun q h => h) hU hW⟩ rfl rfl hl.1 rfl (lv_room (Nat.le_of_ble_eq_true rfl)) dL_isGotSo_231 ⟨(show cells + 3 ≤ 384 by omega), (show slots + 18 ≤ 2304 by omega)⟩) hS (fun q _ h => (fun q h => h) q h) (fun q h => h) (fun r_63 uu t H_63 locs_63 ht hvm hw hB hzq hk1 hS => ?_)
                        rw [ht] at hB
                        have hM := hB
                        obtain rfl : r_63 = nI (gd (mskM y.1 h) (y.2.2.2 u)) := hw
                        refine lv_if_le (tgt := 241) hx hb dL_isGotSo_234 (by decide) (fun c_64 => ?_) (fun c_64 => ?_)
                        · exfalso
                          have f_c_64 : (gd (mskM y.1 h) (y.2.2.2 u)) ≤ 0 := (nI_leI (a := (gd (mskM y.1 h) (y.2.2.2 u))) (b := 0) (by omega) (by omega)).mp c_64
                          omega
                        · skip
                          refine lv_iconst (v := (nI 1)) hx hb dL_isGotSo_237 (by decide) ?_
                          refine lv_goto (tgt := 242) hx hb dL_isGotSo_238 (by decide) ?_
                          refine lv_istore (lv' := [(11, .int (nI 1)), (10, .int (nI h)), (9, .int (nI (mskM y.1 k))), (8, .int (nI O)), (7, .int (nI T)), (6, .int (nI (pc (y.2.2.2 u).2.1))), (5, .int (nI (rkN (y.2.2.2 u).2))), (4, .int (nI (rkN (getM (mskM y.1 k) (y.2.2.2 u).2)))), (3, .int (nI (gd (mskM y.1 k) (y.2.2.2 u)))), (2, .int (nI k)), (1, .int (nI u)), (0, .ref ((g 0)))]) hx hb dL_isGotSo_242 hl (by decide) rfl (fun ls hl => ?_)
                          exact J244  _ _ ls _ _ (by omega) (by omega) hM hS (lv_sub hl [0, 2, 3, 4, 5, 6, 7, 8, 9, 10, 11] rfl)
              refine lv_iload_n hx hb dL_isGotSo_140 rfl (lv_at hl 9 rfl) ?_
              refine lv_istore (lv' := [(12, .int (nI k)), (11, .int (nI 1)), (10, .int (nI h)), (9, .int (nI (mskM y.1 k))), (8, .int (nI O)), (7, .int (nI T)), (6, .int (nI (pc (y.2.2.2 u).2.1))), (5, .int (nI (rkN (y.2.2.2 u).2))), (4, .int (nI (rkN (getM (mskM y.1 k) (y.2.2.2 u).2)))), (3, .int (nI (gd (mskM y.1 k) (y.2.2.2 u)))), (2, .int (nI k)), (1, .int (nI u)), (0, .ref ((g 0)))]) hx hb dL_isGotSo_141 hl (by decide) rfl (fun ls hl => ?_)
              have L143 : ∀ (n : Nat) (j : Nat) (H : Heap) (locs : List Loc) (ls : Array Slot) (cells slots : Nat), j + n = k + 100 → k ≤ j → cells + n * 3 ≤ 348 → slots + n * 18 ≤ 2088 → MB E g ln bf z ke hs H → va_S (wF 94 g) s.heap H locs → lv_has ls 15 [(12, .int (nI j)), (11, .int (nI 1)), (10, .int (nI h)), (9, .int (nI (mskM y.1 k))), (8, .int (nI O)), (7, .int (nI T)), (6, .int (nI (pc (y.2.2.2 u).2.1))), (5, .int (nI (rkN (y.2.2.2 u).2))), (4, .int (nI (rkN (getM (mskM y.1 k) (y.2.2.2 u).2)))), (3, .int (nI (gd (mskM y.1 k) (y.2.2.2 u)))), (2, .int (nI k)), (1, .int (nI u)), (0, .ref ((g 0)))] → W p l e (headSpec wsL_isGotSo ({ frames := 9, cells := 384, slots := 2304, locals := 175 })).room s m ([.ref ((g 0)), .int (nI u), .int (nI k)] : List Value).toArray below meth c H locs (cells) (slots) (MQ below (va_Qi (fun (r : Int32) (_ : Nat × (Nat → SS)) => r = nI 1) (fun v t => MB E g ln bf z v.1 v.2 t.heap) (wF 94 g)) ([.ref ((g 0)), .int (nI u), .int (nI k)] : List Value).toArray s 384 2304 (wF 94 g)) (F0 m 143 ls []) := by
                intro n
                induction n with
                | zero =>
                  intro j H locs ls cells slots hjn hkj hc9 hs9 hM hS hl
                  refine lv_iload hx hb dL_isGotSo_143 (lv_at hl 0 rfl) ?_
                  refine lv_sipush (v := (nI 10000)) hx hb dL_isGotSo_145 (by decide) ?_
                  refine lv_icmp_ge (tgt := 201) hx hb dL_isGotSo_148 (by decide) (fun c_65 => ?_) (fun c_65 => ?_)
                  · have f_c_65 : 10000 ≤ j := (nI_leI (a := 10000) (b := j) (by omega) (by omega)).mp c_65
                    exact J201  _ _ ls _ _ (by omega) (by omega) hM hS (lv_sub hl [1, 2, 3, 4, 5, 6, 7, 8, 9, 10, 11, 12] rfl)
                  · have f_c_65 : ¬ 10000 ≤ j := fun z9 => c_65 ((nI_leI (a := 10000) (b := j) (by omega) (by omega)).mpr z9)
                    refine lv_iload hx hb dL_isGotSo_151 (lv_at hl 0 rfl) ?_
                    refine lv_iload_n hx hb dL_isGotSo_153 rfl (lv_at hl 10 rfl) ?_
                    refine lv_bipush (v := (nI 100)) hx hb dL_isGotSo_154 (by decide) ?_
                    refine lv_iadd hx hb dL_isGotSo_156 ?_
                    rw [show nI k + nI 100 = nI (k + 100) from nI_add _ _]
                    refine lv_icmp_ge (tgt := 201) hx hb dL_isGotSo_157 (by decide) (fun c_66 => ?_) (fun c_66 => ?_)
                    · skip
                      exact J201  _ _ ls _ _ (by omega) (by omega) hM hS (lv_sub hl [1, 2, 3, 4, 5, 6, 7, 8, 9, 10, 11, 12] rfl)
                    · exfalso
                      have f_c_66 : ¬ (k + 100) ≤ j := fun z9 => c_66 ((nI_leI (a := (k + 100)) (b := j) (by omega) (by omega)).mpr z9)
                      omega
                | succ n ih =>
                  intro j H locs ls cells slots hjn hkj hc9 hs9 hM hS hl
                  refine lv_iload hx hb dL_isGotSo_143 (lv_at hl 0 rfl) ?_
                  refine lv_sipush (v := (nI 10000)) hx hb dL_isGotSo_145 (by decide) ?_
                  refine lv_icmp_ge (tgt := 201) hx hb dL_isGotSo_148 (by decide) (fun c_67 => ?_) (fun c_67 => ?_)
                  · have f_c_67 : 10000 ≤ j := (nI_leI (a := 10000) (b := j) (by omega) (by omega)).mp c_67
                    exact J201  _ _ ls _ _ (by omega) (by omega) hM hS (lv_sub hl [1, 2, 3, 4, 5, 6, 7, 8, 9, 10, 11, 12] rfl)
                  · have f_c_67 : ¬ 10000 ≤ j := fun z9 => c_67 ((nI_leI (a := 10000) (b := j) (by omega) (by omega)).mpr z9)
                    refine lv_iload hx hb dL_isGotSo_151 (lv_at hl 0 rfl) ?_
                    refine lv_iload_n hx hb dL_isGotSo_153 rfl (lv_at hl 10 rfl) ?_
                    refine lv_bipush (v := (nI 100)) hx hb dL_isGotSo_154 (by decide) ?_
                    refine lv_iadd hx hb dL_isGotSo_156 ?_
                    rw [show nI k + nI 100 = nI (k + 100) from nI_add _ _]
                    refine lv_icmp_ge (tgt := 201) hx hb dL_isGotSo_157 (by decide) (fun c_68 => ?_) (fun c_68 => ?_)
                    · exfalso
                      have f_c_68 : (k + 100) ≤ j := (nI_leI (a := (k + 100)) (b := j) (by omega) (by omega)).mp c_68
                      omega
                    · skip
                      refine lv_iload hx hb dL_isGotSo_160 (lv_at hl 2 rfl) ?_
                      refine lv_if_lt (tgt := 172) hx hb dL_isGotSo_162 (by decide) (fun c_69 => ?_) (fun c_69 => ?_)
                      · exfalso
                        have f_c_69 : h < 0 := (nI_ltI (a := h) (b := 0) (by omega) (by omega)).mp c_69
                        omega
                      · skip
                        refine lv_iload hx hb dL_isGotSo_165 (lv_at hl 0 rfl) ?_
                        refine lv_iload hx hb dL_isGotSo_167 (lv_at hl 2 rfl) ?_
                        refine lv_icmp_ge (tgt := 201) hx hb dL_isGotSo_169 (by decide) (fun c_70 => ?_) (fun c_70 => ?_)
                        · have f_c_70 : h ≤ j := (nI_leI (a := h) (b := j) (by omega) (by omega)).mp c_70
                          exact J201  _ _ ls _ _ (by omega) (by omega) hM hS (lv_sub hl [1, 2, 3, 4, 5, 6, 7, 8, 9, 10, 11, 12] rfl)
                        · have f_c_70 : ¬ h ≤ j := fun z9 => c_70 ((nI_leI (a := h) (b := j) (by omega) (by omega)).mpr z9)
                          refine lv_iload hx hb dL_isGotSo_172 (lv_at hl 1 rfl) ?_
                          refine lv_if_eq (tgt := 192) hx hb dL_isGotSo_174 (by decide) (fun c_71 => ?_) (fun c_71 => ?_)
                          · exact absurd c_71 (by decide)
                          · skip
                            refine lv_aload_n hx hb dL_isGotSo_177 rfl (lv_at hl 12 rfl) ?_
                            refine lv_iload_n hx hb dL_isGotSo_178 rfl (lv_at hl 11 rfl) ?_
                            refine lv_iload hx hb dL_isGotSo_179 (lv_at hl 0 rfl) ?_
                            refine lv_iconst (v := (nI 0)) hx hb dL_isGotSo_181 (by decide) ?_
                            refine va_calli (va_runV (As := [.int (nI u), .int (nI j), .int (nI 0)]) (rest := []) ⟨hx, hb, hml, hown, hts⟩ (n_ifGot0 l hst E g ln bf z ke hs hz hu (k := j) (by omega)) (cwV 3 hts gL_isGotSo_X5_ifGot rfl rfl rfl (by decide +kernel) ⟨Nat.le_of_ble_eq_true rfl, Nat.le_of_ble_eq_true rfl⟩) ⟨wSx.blind, (w_recv hK hM.main 0 (by decide) rfl (ci := 5) rfl), fun U hU hW => wSx.go hM hK hI hxe hS (fun q h => h) hU hW⟩ rfl rfl hl.1 rfl (lv_room (Nat.le_of_ble_eq_true rfl)) dL_isGotSo_182 ⟨(show cells + 3 ≤ 384 by omega), (show slots + 18 ≤ 2304 by omega)⟩) hS (fun q _ h => (fun q h => h) q h) (fun q h => h) (fun r_72 uu t H_72 locs_72 ht hvm hw hB hzq hk1 hS => ?_)
                            rw [ht] at hB
                            have hM := hB
                            obtain rfl : r_72 = nI (gd (mskM y.1 j) (y.2.2.2 u)) := hw
                            refine lv_if_ne (tgt := 192) hx hb dL_isGotSo_185 (by decide) (fun c_73 => ?_) (fun c_73 => ?_)
                            · exact absurd (congrArg nI (hp_zero (by omega) hn12 hMI (hno j (by omega) (by omega)))) c_73
                            · skip
                              refine lv_iconst (v := (nI 1)) hx hb dL_isGotSo_188 (by decide) ?_
                              refine lv_goto (tgt := 193) hx hb dL_isGotSo_189 (by decide) ?_
                              refine lv_istore (lv' := [(11, .int (nI 1)), (12, .int (nI j)), (10, .int (nI h)), (9, .int (nI (mskM y.1 k))), (8, .int (nI O)), (7, .int (nI T)), (6, .int (nI (pc (y.2.2.2 u).2.1))), (5, .int (nI (rkN (y.2.2.2 u).2))), (4, .int (nI (rkN (getM (mskM y.1 k) (y.2.2.2 u).2)))), (3, .int (nI (gd (mskM y.1 k) (y.2.2.2 u)))), (2, .int (nI k)), (1, .int (nI u)), (0, .ref ((g 0)))]) hx hb dL_isGotSo_193 hl (by decide) rfl (fun ls hl => ?_)
                              refine lv_iinc (v := (nI (j + 1))) (lv' := [(12, .int (nI (j + 1))), (11, .int (nI 1)), (10, .int (nI h)), (9, .int (nI (mskM y.1 k))), (8, .int (nI O)), (7, .int (nI T)), (6, .int (nI (pc (y.2.2.2 u).2.1))), (5, .int (nI (rkN (y.2.2.2 u).2))), (4, .int (nI (rkN (getM (mskM y.1 k) (y.2.2.2 u).2)))), (3, .int (nI (gd (mskM y.1 k) (y.2.2.2 u)))), (2, .int (nI k)), (1, .int (nI u)), (0, .ref ((g 0)))]) hx hb dL_isGotSo_195 hl (k := 1) rfl (nI_1 _) (by decide) rfl (fun ls hl => ?_)
                              refine lv_goto (tgt := 143) hx hb dL_isGotSo_198 (by decide) ?_
                              exact ih (j + 1) _ _ ls _ _ (by omega) (by omega) (by omega) (by omega) hM hS (lv_sub hl [0, 1, 2, 3, 4, 5, 6, 7, 8, 9, 10, 11, 12] rfl)
              exact L143 100 k _ _ ls _ _ rfl (Nat.le_refl k) (by omega) (by omega) hM hS (lv_sub hl [0, 1, 2, 3, 4, 5, 6, 7, 8, 9, 10, 11, 12] rfl)
          refine lv_iload hx hb dL_isGotSo_117 (lv_at hl 6 rfl) ?_
          refine lv_iload hx hb dL_isGotSo_119 (lv_at hl 5 rfl) ?_
          refine lv_icmp_eq (tgt := 133) hx hb dL_isGotSo_121 (by decide) (fun c_74 => ?_) (fun c_74 => ?_)
          · have f_c_74 : (rkN (getM (mskM y.1 k) (y.2.2.2 u).2)) = (rkN (y.2.2.2 u).2) := (nI_eq (a := (rkN (getM (mskM y.1 k) (y.2.2.2 u).2))) (b := (rkN (y.2.2.2 u).2)) (by omega) (by omega)).mp c_74
            exact J133  _ _ ls _ _ (Nat.le_of_ble_eq_true rfl) (Nat.le_of_ble_eq_true rfl) hM hS (lv_sub hl [0, 1, 2, 3, 4, 5, 6, 7, 10, 9, 8] rfl)
          · have f_c_74 : ¬ (rkN (getM (mskM y.1 k) (y.2.2.2 u).2)) = (rkN (y.2.2.2 u).2) := fun z9 => c_74 ((nI_eq (a := (rkN (getM (mskM y.1 k) (y.2.2.2 u).2))) (b := (rkN (y.2.2.2 u).2)) (by omega) (by omega)).mpr z9)
            refine lv_iload hx hb dL_isGotSo_124 (lv_at hl 6 rfl) ?_
            refine lv_iload hx hb dL_isGotSo_126 (lv_at hl 5 rfl) ?_
            refine lv_iconst (v := (nI 1)) hx hb dL_isGotSo_128 (by decide) ?_
            refine lv_iadd hx hb dL_isGotSo_129 ?_
            rw [show nI (rkN (y.2.2.2 u).2) + nI 1 = nI ((rkN (y.2.2.2 u).2) + 1) from nI_add _ _]
            refine lv_icmp_ne (tgt := 137) hx hb dL_isGotSo_130 (by decide) (fun c_75 => ?_) (fun c_75 => ?_)
            · exfalso
              have f_c_75 : ¬ (rkN (getM (mskM y.1 k) (y.2.2.2 u).2)) = ((rkN (y.2.2.2 u).2) + 1) := fun z9 => c_75 ((nI_eq (a := (rkN (getM (mskM y.1 k) (y.2.2.2 u).2))) (b := ((rkN (y.2.2.2 u).2) + 1)) (by omega) (by omega)).mpr z9)
              omega
            · skip
              exact J133  _ _ ls _ _ (Nat.le_of_ble_eq_true rfl) (Nat.le_of_ble_eq_true rfl) hM hS (lv_sub hl [0, 1, 2, 3, 4, 5, 6, 7, 10, 9, 8] rfl)
