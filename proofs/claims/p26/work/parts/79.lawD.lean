/-! the law: isNeedSo -/
set_option maxRecDepth 20000 in
theorem inN5 : ∀ w ∈ wsX50, w ∈ wsL_isNeedSo := memIn [328, 329, 330, 331, 332, 333, 334] (by decide +kernel)
set_option maxHeartbeats 4000000 in
set_option maxRecDepth 100000 in
theorem c_L_isNeedSo (l : Launch) (hst : l.stackTraces = false) (E : wE) (g : Nat → Nat) (ln : Nat) (bf : Nat → Int32) (z : SS) (ke : Nat) (hs : Nat → SS) {B : Nat} {y : MS} (hz : RZ B z y) (hB9 : B ≤ 90000) {u k : Nat} (hu : u < 3) (hk : k < 9900) (sz : Nat) : Met l yL_isNeedSo wsL_isNeedSo ({ frames := 8, cells := 474, slots := 3474, locals := 175 }) (va_Pc [.ref ((g 0)), .int (nI u), .int (nI k)] (wNd E g sz (MB E g ln bf z ke hs))) (va_Qi (fun (r : Int32) (_ : Nat × (Nat → SS)) => r = nI 1) (fun v t => MB E g ln bf z v.1 v.2 t.heap) (fun q => wF 94 g q ∨ sz ≤ q)) 474 3474 (fun q => wF 94 g q ∨ sz ≤ q) := by
  refine Met.ofW (cc := cL_isNeedSo) (maxL := 16) (ret := (some .boolean)) (by decide) rfl ?_
  intro p e s m args below meth c s₁ Bd hml hv
  obtain ⟨rfl, ⟨hM, hK, hI, hxe⟩, hsz, hO3, hO4⟩ := hv
  have hx := Bd.exec
  have hb := Bd.bytes
  have hr := Bd.returns
  have hts := atoms_spec (ws := wsL_isNeedSo) Bd.pre
  have hown : s.vm.findClass RL = some m.cls := findClass_of_methodNamed Bd.named
  have hlocks := Bd.notSynchronized
  have hS : va_S (fun q => wF 94 g q ∨ sz ≤ q) s.heap s.heap [] := va_S.rf
  have hl := lv_entry ([.ref ((g 0)), .int (nI u), .int (nI k)]) (n := 16) (Nat.le_of_ble_eq_true rfl)
  rw [lg_entry_eq]
  generalize (lg_sl ([.ref ((g 0)), .int (nI u), .int (nI k)]) ++ List.replicate (16 - (lg_sl ([.ref ((g 0)), .int (nI u), .int (nI k)])).length) Slot.unset).toArray = ls at hl ⊢
  have hl : lv_has ls 16 [(0, .ref ((g 0))), (1, .int (nI u)), (2, .int (nI k))] := hl
  have hk6 := hM.k6.1
  obtain ⟨hzn, hn2, hn12⟩ := rz_nb hz
  obtain ⟨hMI, hCN⟩ := rz_MI hz hu
  have hK4 : (y.2.2.2 u).2.1 < 4096 := MI_K hn12 hMI
  have hpcK := pc_le (y.2.2.2 u).2.1
  have hW24 : (y.2.2.2 u).2.2.2.2.2.length ≤ 24 := hMI.2.2
  have hE12 := pc_le (alnM (redW (y.2.2.2 u).2.2.2.2.2))
  have hep : pc (elmQ y.1 (y.2.2.2 u).2).1 = pc (y.2.2.2 u).2.1 + (pc (alnM (redW (y.2.2.2 u).2.2.2.2.2))) := elm_pc hn12 hMI
  have hen : alnM (redW (elmQ y.1 (y.2.2.2 u).2).2.2.2.2) = 0 := elm_none hn12 hMI
  have her : rkN (elmQ y.1 (y.2.2.2 u).2) = rkN (y.2.2.2 u).2 := (elm_all hn12 hMI).2.1
  have hrb : rkN (y.2.2.2 u).2 ≤ y.1 := rk_le hn12 hMI
  have hgl0 := hM.lt
  obtain ⟨hk0, hk61, hkz⟩ := push_top ke hs z hk6
  refine lv_aload_n hx hb dL_isNeedSo_0 rfl (lv_at hl 0 rfl) ?_
  refine lv_iload_n hx hb dL_isNeedSo_1 rfl (lv_at hl 1 rfl) ?_
  refine va_calli (va_runV (As := [.int (nI u)]) (rest := []) ⟨hx, hb, hml, hown, hts⟩ (n_ifEl l hst E g ln bf z ke hs hz hu) (cwV 1 hts gL_isNeedSo_X5_ifEliminated rfl rfl rfl (by decide +kernel) ⟨Nat.le_of_ble_eq_true rfl, Nat.le_of_ble_eq_true rfl⟩) ⟨wSx.blind, (w_recv hK hM.main 0 (by decide) rfl (ci := 5) rfl), fun U hU hW => wSx.go hM hK hI hxe hS (fun q h => Or.inl h) hU hW⟩ rfl rfl hl.1 rfl (lv_room (Nat.le_of_ble_eq_true rfl)) dL_isNeedSo_2 ⟨Nat.le_of_ble_eq_true rfl, Nat.le_of_ble_eq_true rfl⟩) hS (fun q _ h => (fun q h => Or.inl h) q h) (fun q h => Or.inl h) (fun r_1 uu t H_1 locs_1 ht hvm hw hB hzq hk1 hS => ?_)
  rw [ht] at hB
  have hM := hB
  obtain rfl : r_1 = nI (pc (alnM (redW (y.2.2.2 u).2.2.2.2.2))) := hw
  refine lv_istore_n (lv' := [(3, .int (nI (pc (alnM (redW (y.2.2.2 u).2.2.2.2.2))))), (0, .ref ((g 0))), (1, .int (nI u)), (2, .int (nI k))]) hx hb dL_isNeedSo_5 rfl hl (by decide) rfl (fun ls hl => ?_)
  refine lv_aload_n hx hb dL_isNeedSo_6 rfl (lv_at hl 1 rfl) ?_
  refine lv_iload_n hx hb dL_isNeedSo_7 rfl (lv_at hl 2 rfl) ?_
  refine lv_bipush (v := (nI 8)) hx hb dL_isNeedSo_8 (by decide) ?_
  refine va_calli (va_runV (As := [.int (nI u), .int (nI 8)]) (rest := []) ⟨hx, hb, hml, hown, hts⟩ (n_rec8 l hst E g ln bf z ke hs hz hu) (cwV 2 hts gL_isNeedSo_X5_receiver rfl rfl rfl (by decide +kernel) ⟨Nat.le_of_ble_eq_true rfl, Nat.le_of_ble_eq_true rfl⟩) ⟨wSx.blind, (w_recv hK hM.main 0 (by decide) rfl (ci := 5) rfl), fun U hU hW => wSx.go hM hK hI hxe hS (fun q h => Or.inl h) hU hW⟩ rfl rfl hl.1 rfl (lv_room (Nat.le_of_ble_eq_true rfl)) dL_isNeedSo_10 ⟨Nat.le_of_ble_eq_true rfl, Nat.le_of_ble_eq_true rfl⟩) hS (fun q _ h => (fun q h => Or.inl h) q h) (fun q h => Or.inl h) (fun r_2 uu t H_2 locs_2 ht hvm hw hB hzq hk1 hS => ?_)
  rw [ht] at hB
  have hM := hB
  obtain rfl : r_2 = nI (rkN (y.2.2.2 u).2) := hw
  refine lv_istore (lv' := [(4, .int (nI (rkN (y.2.2.2 u).2))), (3, .int (nI (pc (alnM (redW (y.2.2.2 u).2.2.2.2.2))))), (0, .ref ((g 0))), (1, .int (nI u)), (2, .int (nI k))]) hx hb dL_isNeedSo_13 hl (by decide) rfl (fun ls hl => ?_)
  refine lv_aload_n hx hb dL_isNeedSo_15 rfl (lv_at hl 2 rfl) ?_
  refine lv_iload_n hx hb dL_isNeedSo_16 rfl (lv_at hl 3 rfl) ?_
  refine lv_iconst (v := (nI 1)) hx hb dL_isNeedSo_17 (by decide) ?_
  refine va_calli (va_runV (As := [.int (nI u), .int (nI 1)]) (rest := []) ⟨hx, hb, hml, hown, hts⟩ (n_rec1 l hst E g ln bf z ke hs hz hu) (cwV 2 hts gL_isNeedSo_X5_receiver rfl rfl rfl (by decide +kernel) ⟨Nat.le_of_ble_eq_true rfl, Nat.le_of_ble_eq_true rfl⟩) ⟨wSx.blind, (w_recv hK hM.main 0 (by decide) rfl (ci := 5) rfl), fun U hU hW => wSx.go hM hK hI hxe hS (fun q h => Or.inl h) hU hW⟩ rfl rfl hl.1 rfl (lv_room (Nat.le_of_ble_eq_true rfl)) dL_isNeedSo_18 ⟨Nat.le_of_ble_eq_true rfl, Nat.le_of_ble_eq_true rfl⟩) hS (fun q _ h => (fun q h => Or.inl h) q h) (fun q h => Or.inl h) (fun r_3 uu t H_3 locs_3 ht hvm hw hB hzq hk1 hS => ?_)
  rw [ht] at hB
  have hM := hB
  obtain rfl : r_3 = nI (pc (y.2.2.2 u).2.1) := hw
  refine lv_istore (lv' := [(5, .int (nI (pc (y.2.2.2 u).2.1))), (4, .int (nI (rkN (y.2.2.2 u).2))), (3, .int (nI (pc (alnM (redW (y.2.2.2 u).2.2.2.2.2))))), (0, .ref ((g 0))), (1, .int (nI u)), (2, .int (nI k))]) hx hb dL_isNeedSo_21 hl (by decide) rfl (fun ls hl => ?_)
  refine lv_aload_n hx hb dL_isNeedSo_23 rfl (lv_at hl 3 rfl) ?_
  refine lv_iload_n hx hb dL_isNeedSo_24 rfl (lv_at hl 4 rfl) ?_
  refine va_calli (va_runV (As := [.int (nI u)]) (rest := []) ⟨hx, hb, hml, hown, hts⟩ (n_eliminate l hst E g ln bf z ke hs hz hu) (cwV 1 hts gL_isNeedSo_X5_eliminate rfl rfl rfl (by decide +kernel) ⟨Nat.le_of_ble_eq_true rfl, Nat.le_of_ble_eq_true rfl⟩) ⟨wSx.blind, (w_recv hK hM.main 0 (by decide) rfl (ci := 5) rfl), fun U hU hW => wSx.go hM hK hI hxe hS (fun q h => Or.inl h) hU hW⟩ rfl rfl hl.1 rfl (lv_room (Nat.le_of_ble_eq_true rfl)) dL_isNeedSo_25 ⟨Nat.le_of_ble_eq_true rfl, Nat.le_of_ble_eq_true rfl⟩) hS (fun q _ h => (fun q h => Or.inl h) q h) (fun q h => Or.inl h) (fun r_4 uu t H_4 locs_4 ht hvm hw hB hzq hk1 hS => ?_)
  rw [ht] at hB
  have hM := hB
  obtain rfl : r_4 = nI (pc (alnM (redW (y.2.2.2 u).2.2.2.2.2))) := hw
  have hz1 := elim1_mk hz hu
  obtain ⟨z1, ez1⟩ : ∃ z1, z1 = recvZ z u (elimR (z.2.2.2 u)) := ⟨_, rfl⟩
  obtain ⟨y1, ey1⟩ : ∃ y1 : MS, y1 = (y.1, y.2.1, y.2.2.1, va_up y.2.2.2 u ((y.2.2.2 u).1, elmQ y.1 (y.2.2.2 u).2)) := ⟨_, rfl⟩
  rw [← ez1] at hM hz1
  rw [← ey1] at hz1
  have hy1u : y1.2.2.2 u = ((y.2.2.2 u).1, elmQ y.1 (y.2.2.2 u).2) := by rw [ey1]; exact va_up_at _ _ _
  refine lv_iload_n hx hb dL_isNeedSo_28 rfl (lv_at hl 2 rfl) ?_
  refine lv_icmp_ne (tgt := 69) hx hb dL_isNeedSo_29 (by decide) (fun c_5 => ?_) (fun c_5 => ?_)
  · exact absurd rfl c_5
  · skip
    refine lv_aload_n hx hb dL_isNeedSo_32 rfl (lv_at hl 3 rfl) ?_
    refine lv_iload_n hx hb dL_isNeedSo_33 rfl (lv_at hl 4 rfl) ?_
    refine lv_iconst (v := (nI 1)) hx hb dL_isNeedSo_34 (by decide) ?_
    refine va_calli (va_runV (As := [.int (nI u), .int (nI 1)]) (rest := []) ⟨hx, hb, hml, hown, hts⟩ (n_rec1 l hst E g ln bf z1 (kpK ke) (pushH ke hs z) hz1 hu) (cwV 2 hts gL_isNeedSo_X5_receiver rfl rfl rfl (by decide +kernel) ⟨Nat.le_of_ble_eq_true rfl, Nat.le_of_ble_eq_true rfl⟩) ⟨wSx.blind, (w_recv hK hM.main 0 (by decide) rfl (ci := 5) rfl), fun U hU hW => wSx.go hM hK hI hxe hS (fun q h => Or.inl h) hU hW⟩ rfl rfl hl.1 rfl (lv_room (Nat.le_of_ble_eq_true rfl)) dL_isNeedSo_35 ⟨Nat.le_of_ble_eq_true rfl, Nat.le_of_ble_eq_true rfl⟩) hS (fun q _ h => (fun q h => Or.inl h) q h) (fun q h => Or.inl h) (fun r_6 uu t H_6 locs_6 ht hvm hw hB hzq hk1 hS => ?_)
    rw [ht] at hB
    have hM := hB
    obtain rfl : r_6 = nI (pc (y1.2.2.2 u).2.1) := hw
    rw [hy1u]
    refine lv_iload hx hb dL_isNeedSo_38 (lv_at hl 0 rfl) ?_
    refine lv_iload_n hx hb dL_isNeedSo_40 rfl (lv_at hl 2 rfl) ?_
    refine lv_iadd hx hb dL_isNeedSo_41 ?_
    rw [show nI (pc (y.2.2.2 u).2.1) + nI (pc (alnM (redW (y.2.2.2 u).2.2.2.2.2))) = nI ((pc (y.2.2.2 u).2.1) + (pc (alnM (redW (y.2.2.2 u).2.2.2.2.2)))) from nI_add _ _]
    refine lv_icmp_ne (tgt := 69) hx hb dL_isNeedSo_42 (by decide) (fun c_7 => ?_) (fun c_7 => ?_)
    · exfalso
      have f_c_7 : ¬ (pc (elmQ y.1 (y.2.2.2 u).2).1) = ((pc (y.2.2.2 u).2.1) + (pc (alnM (redW (y.2.2.2 u).2.2.2.2.2)))) := fun z9 => c_7 ((nI_eq (a := (pc (elmQ y.1 (y.2.2.2 u).2).1)) (b := ((pc (y.2.2.2 u).2.1) + (pc (alnM (redW (y.2.2.2 u).2.2.2.2.2))))) (by omega) (by omega)).mpr z9)
      omega
    · skip
      refine lv_aload_n hx hb dL_isNeedSo_45 rfl (lv_at hl 3 rfl) ?_
      refine lv_iload_n hx hb dL_isNeedSo_46 rfl (lv_at hl 4 rfl) ?_
      refine va_calli (va_runV (As := [.int (nI u)]) (rest := []) ⟨hx, hb, hml, hown, hts⟩ (n_ifEl l hst E g ln bf z1 (kpK ke) (pushH ke hs z) hz1 hu) (cwV 1 hts gL_isNeedSo_X5_ifEliminated rfl rfl rfl (by decide +kernel) ⟨Nat.le_of_ble_eq_true rfl, Nat.le_of_ble_eq_true rfl⟩) ⟨wSx.blind, (w_recv hK hM.main 0 (by decide) rfl (ci := 5) rfl), fun U hU hW => wSx.go hM hK hI hxe hS (fun q h => Or.inl h) hU hW⟩ rfl rfl hl.1 rfl (lv_room (Nat.le_of_ble_eq_true rfl)) dL_isNeedSo_47 ⟨Nat.le_of_ble_eq_true rfl, Nat.le_of_ble_eq_true rfl⟩) hS (fun q _ h => (fun q h => Or.inl h) q h) (fun q h => Or.inl h) (fun r_8 uu t H_8 locs_8 ht hvm hw hB hzq hk1 hS => ?_)
      rw [ht] at hB
      have hM := hB
      obtain rfl : r_8 = nI (pc (alnM (redW (y1.2.2.2 u).2.2.2.2.2))) := hw
      rw [show nI (pc (alnM (redW (y1.2.2.2 u).2.2.2.2.2))) = nI 0 by rw [hy1u, show alnM (redW ((y.2.2.2 u).1, elmQ y.1 (y.2.2.2 u).2).2.2.2.2.2) = 0 from hen]; rfl]
      refine lv_if_ne (tgt := 69) hx hb dL_isNeedSo_50 (by decide) (fun c_9 => ?_) (fun c_9 => ?_)
      · exact absurd rfl c_9
      · skip
        refine lv_aload_n hx hb dL_isNeedSo_53 rfl (lv_at hl 3 rfl) ?_
        refine lv_iload_n hx hb dL_isNeedSo_54 rfl (lv_at hl 4 rfl) ?_
        refine lv_bipush (v := (nI 8)) hx hb dL_isNeedSo_55 (by decide) ?_
        refine va_calli (va_runV (As := [.int (nI u), .int (nI 8)]) (rest := []) ⟨hx, hb, hml, hown, hts⟩ (n_rec8 l hst E g ln bf z1 (kpK ke) (pushH ke hs z) hz1 hu) (cwV 2 hts gL_isNeedSo_X5_receiver rfl rfl rfl (by decide +kernel) ⟨Nat.le_of_ble_eq_true rfl, Nat.le_of_ble_eq_true rfl⟩) ⟨wSx.blind, (w_recv hK hM.main 0 (by decide) rfl (ci := 5) rfl), fun U hU hW => wSx.go hM hK hI hxe hS (fun q h => Or.inl h) hU hW⟩ rfl rfl hl.1 rfl (lv_room (Nat.le_of_ble_eq_true rfl)) dL_isNeedSo_57 ⟨Nat.le_of_ble_eq_true rfl, Nat.le_of_ble_eq_true rfl⟩) hS (fun q _ h => (fun q h => Or.inl h) q h) (fun q h => Or.inl h) (fun r_10 uu t H_10 locs_10 ht hvm hw hB hzq hk1 hS => ?_)
        rw [ht] at hB
        have hM := hB
        obtain rfl : r_10 = nI (rkN (y1.2.2.2 u).2) := hw
        rw [hy1u]
        refine lv_iload hx hb dL_isNeedSo_60 (lv_at hl 1 rfl) ?_
        refine lv_icmp_ne (tgt := 69) hx hb dL_isNeedSo_62 (by decide) (fun c_11 => ?_) (fun c_11 => ?_)
        · exfalso
          have f_c_11 : ¬ (rkN (elmQ y.1 (y.2.2.2 u).2)) = (rkN (y.2.2.2 u).2) := fun z9 => c_11 ((nI_eq (a := (rkN (elmQ y.1 (y.2.2.2 u).2))) (b := (rkN (y.2.2.2 u).2)) (by omega) (by omega)).mpr z9)
          omega
        · skip
          refine lv_iconst (v := (nI 1)) hx hb dL_isNeedSo_65 (by decide) ?_
          refine lv_goto (tgt := 70) hx hb dL_isNeedSo_66 (by decide) ?_
          refine lv_istore (lv' := [(6, .int (nI 1)), (5, .int (nI (pc (y.2.2.2 u).2.1))), (4, .int (nI (rkN (y.2.2.2 u).2))), (3, .int (nI (pc (alnM (redW (y.2.2.2 u).2.2.2.2.2))))), (0, .ref ((g 0))), (1, .int (nI u)), (2, .int (nI k))]) hx hb dL_isNeedSo_70 hl (by decide) rfl (fun ls hl => ?_)
          refine lv_aload_n hx hb dL_isNeedSo_72 rfl (lv_at hl 4 rfl) ?_
          refine va_calli (va_runV (As := []) (rest := []) ⟨hx, hb, hml, hown, hts⟩ (n_undo l hst E g ln bf z1 (kpK ke) (pushH ke hs z) hk0) (cwV 0 hts gL_isNeedSo_X5_undo rfl rfl rfl (by decide +kernel) ⟨Nat.le_of_ble_eq_true rfl, Nat.le_of_ble_eq_true rfl⟩) ⟨wSx.blind, (w_recv hK hM.main 0 (by decide) rfl (ci := 5) rfl), fun U hU hW => wSx.go hM hK hI hxe hS (fun q h => Or.inl h) hU hW⟩ rfl rfl hl.1 rfl (lv_room (Nat.le_of_ble_eq_true rfl)) dL_isNeedSo_73 ⟨Nat.le_of_ble_eq_true rfl, Nat.le_of_ble_eq_true rfl⟩) hS (fun q _ h => (fun q h => Or.inl h) q h) (fun q h => Or.inl h) (fun r_12 uu t H_12 locs_12 ht hvm hw hB hzq hk1 hS => ?_)
          rw [ht] at hB
          have hM := hB
          obtain rfl : r_12 = nI (kpK ke - 1) := hw
          rw [hkz] at hM
          refine lv_istore (lv' := [(7, .int (nI (kpK ke - 1))), (6, .int (nI 1)), (5, .int (nI (pc (y.2.2.2 u).2.1))), (4, .int (nI (rkN (y.2.2.2 u).2))), (3, .int (nI (pc (alnM (redW (y.2.2.2 u).2.2.2.2.2))))), (0, .ref ((g 0))), (1, .int (nI u)), (2, .int (nI k))]) hx hb dL_isNeedSo_76 hl (by decide) rfl (fun ls hl => ?_)
          refine lv_aload_n hx hb dL_isNeedSo_78 rfl (lv_at hl 5 rfl) ?_
          refine lv_iload_n hx hb dL_isNeedSo_79 rfl (lv_at hl 6 rfl) ?_
          refine lv_iload_n hx hb dL_isNeedSo_80 rfl (lv_at hl 7 rfl) ?_
          refine lv_iconst (v := (nI 0)) hx hb dL_isNeedSo_81 (by decide) ?_
          refine W.eq (g2 := F0 m 82 ls [.int (bI false), .int (nI k), .int (nI u), .ref (g 0)]) rfl ?_
          refine va_calli (va_runV (As := [.int (nI u), .int (nI k), .int ((bI false))]) (rest := []) ⟨hx, hb, hml, hown, hts⟩ (n_needs l hst E g ln bf z (kpK ke - 1) (pushH ke hs z) hz hu hk false) (cwV 3 hts gL_isNeedSo_X5_needs rfl rfl rfl (by decide +kernel) ⟨Nat.le_of_ble_eq_true rfl, Nat.le_of_ble_eq_true rfl⟩) ⟨wSx.blind, (w_recv hK hM.main 0 (by decide) rfl (ci := 5) rfl), fun U hU hW => wSx.go hM hK hI hxe hS (fun q h => Or.inl h) hU hW⟩ rfl rfl hl.1 rfl (lv_room (Nat.le_of_ble_eq_true rfl)) dL_isNeedSo_82 ⟨Nat.le_of_ble_eq_true rfl, Nat.le_of_ble_eq_true rfl⟩) hS (fun q _ h => (fun q h => Or.inl h) q h) (fun q h => Or.inl h) (fun r_13 uu t H_13 locs_13 ht hvm hw hB hzq hk1 hS => ?_)
          rw [ht] at hB
          have hM := hB
          obtain rfl : r_13 = (ndM y.1 k false 100 0 (y.2.2.2 u).2) := hw
          refine lv_istore (lv' := [(8, .int ((ndM y.1 k false 100 0 (y.2.2.2 u).2))), (7, .int (nI (kpK ke - 1))), (6, .int (nI 1)), (5, .int (nI (pc (y.2.2.2 u).2.1))), (4, .int (nI (rkN (y.2.2.2 u).2))), (3, .int (nI (pc (alnM (redW (y.2.2.2 u).2.2.2.2.2))))), (0, .ref ((g 0))), (1, .int (nI u)), (2, .int (nI k))]) hx hb dL_isNeedSo_85 hl (by decide) rfl (fun ls hl => ?_)
          refine lv_aload_n hx hb dL_isNeedSo_87 rfl (lv_at hl 6 rfl) ?_
          refine lv_iload_n hx hb dL_isNeedSo_88 rfl (lv_at hl 7 rfl) ?_
          refine lv_iload_n hx hb dL_isNeedSo_89 rfl (lv_at hl 8 rfl) ?_
          refine lv_iconst (v := (nI 1)) hx hb dL_isNeedSo_90 (by decide) ?_
          refine W.eq (g2 := F0 m 91 ls [.int (bI true), .int (nI k), .int (nI u), .ref (g 0)]) rfl ?_
          refine va_calli (va_runV (As := [.int (nI u), .int (nI k), .int ((bI true))]) (rest := []) ⟨hx, hb, hml, hown, hts⟩ (n_needs l hst E g ln bf z (kpK ke - 1) (pushH ke hs z) hz hu hk true) (cwV 3 hts gL_isNeedSo_X5_needs rfl rfl rfl (by decide +kernel) ⟨Nat.le_of_ble_eq_true rfl, Nat.le_of_ble_eq_true rfl⟩) ⟨wSx.blind, (w_recv hK hM.main 0 (by decide) rfl (ci := 5) rfl), fun U hU hW => wSx.go hM hK hI hxe hS (fun q h => Or.inl h) hU hW⟩ rfl rfl hl.1 rfl (lv_room (Nat.le_of_ble_eq_true rfl)) dL_isNeedSo_91 ⟨Nat.le_of_ble_eq_true rfl, Nat.le_of_ble_eq_true rfl⟩) hS (fun q _ h => (fun q h => Or.inl h) q h) (fun q h => Or.inl h) (fun r_14 uu t H_14 locs_14 ht hvm hw hB hzq hk1 hS => ?_)
          rw [ht] at hB
          have hM := hB
          obtain rfl : r_14 = (ndM y.1 k true 100 0 (y.2.2.2 u).2) := hw
          refine lv_istore (lv' := [(9, .int ((ndM y.1 k true 100 0 (y.2.2.2 u).2))), (8, .int ((ndM y.1 k false 100 0 (y.2.2.2 u).2))), (7, .int (nI (kpK ke - 1))), (6, .int (nI 1)), (5, .int (nI (pc (y.2.2.2 u).2.1))), (4, .int (nI (rkN (y.2.2.2 u).2))), (3, .int (nI (pc (alnM (redW (y.2.2.2 u).2.2.2.2.2))))), (0, .ref ((g 0))), (1, .int (nI u)), (2, .int (nI k))]) hx hb dL_isNeedSo_94 hl (by decide) rfl (fun ls hl => ?_)
          refine lv_iload hx hb dL_isNeedSo_96 (lv_at hl 3 rfl) ?_
          refine lv_if_eq (tgt := 203) hx hb dL_isNeedSo_98 (by decide) (fun c_15 => ?_) (fun c_15 => ?_)
          · exact absurd c_15 (by decide)
          · skip
            refine lv_iload hx hb dL_isNeedSo_101 (lv_at hl 2 rfl) ?_
            refine lv_if_lt (tgt := 203) hx hb dL_isNeedSo_103 (by decide) (fun c_16 => ?_) (fun c_16 => ?_)
            · exfalso
              have f_c_16 : (kpK ke - 1) < 0 := (nI_ltI (a := (kpK ke - 1)) (b := 0) (by omega) (by omega)).mp c_16
              omega
            · skip
              refine lv_iload hx hb dL_isNeedSo_106 (lv_at hl 1 rfl) ?_
              refine lv_bz hx hb dL_isNeedSo_108 dL_isNeedSo_111 dL_isNeedSo_112 dL_isNeedSo_115 ?_
              refine lv_aload_n hx hb dL_isNeedSo_116 rfl (lv_at hl 7 rfl) ?_
              refine lv_iload_n hx hb dL_isNeedSo_117 rfl (lv_at hl 8 rfl) ?_
              refine lv_bipush (v := (nI 7)) hx hb dL_isNeedSo_118 (by decide) ?_
              refine va_calli (va_runV (As := [.int (nI u), .int (nI 7)]) (rest := [.int ((bI (decide ((ndM y.1 k false 100 0 (y.2.2.2 u).2) = 0))))]) ⟨hx, hb, hml, hown, hts⟩ (n_rec7 l hst E g ln bf z (kpK ke - 1) (pushH ke hs z) hz hu) (cwV 2 hts gL_isNeedSo_X5_receiver rfl rfl rfl (by decide +kernel) ⟨Nat.le_of_ble_eq_true rfl, Nat.le_of_ble_eq_true rfl⟩) ⟨wSx.blind, (w_recv hK hM.main 0 (by decide) rfl (ci := 5) rfl), fun U hU hW => wSx.go hM hK hI hxe hS (fun q h => Or.inl h) hU hW⟩ rfl rfl hl.1 rfl (lv_room (Nat.le_of_ble_eq_true rfl)) dL_isNeedSo_120 ⟨Nat.le_of_ble_eq_true rfl, Nat.le_of_ble_eq_true rfl⟩) hS (fun q _ h => (fun q h => Or.inl h) q h) (fun q h => Or.inl h) (fun r_17 uu t H_17 locs_17 ht hvm hw hB hzq hk1 hS => ?_)
              rw [ht] at hB
              have hM := hB
              obtain rfl : r_17 = (bI (isDM y.1 (y.2.2.2 u).2)) := hw
              refine lv_iconst (v := (nI 1)) hx hb dL_isNeedSo_123 (by decide) ?_
              refine lv_beq hx hb dL_isNeedSo_124 dL_isNeedSo_127 dL_isNeedSo_128 dL_isNeedSo_131 ?_
              refine lv_icmp_ne (tgt := 203) hx hb dL_isNeedSo_132 (by decide) (fun c_18 => ?_) (fun c_18 => ?_)
              · exact absurd dn_zero c_18
              · skip
                refine lv_iload hx hb dL_isNeedSo_135 (lv_at hl 0 rfl) ?_
                refine lv_bz hx hb dL_isNeedSo_137 dL_isNeedSo_140 dL_isNeedSo_141 dL_isNeedSo_144 ?_
                refine lv_iload hx hb dL_isNeedSo_145 (lv_at hl 1 rfl) ?_
                refine lv_bz hx hb dL_isNeedSo_147 dL_isNeedSo_150 dL_isNeedSo_151 dL_isNeedSo_154 ?_
                refine lv_icmp_ne (tgt := 203) hx hb dL_isNeedSo_155 (by decide) (fun c_19 => ?_) (fun c_19 => ?_)
                · exact absurd dn_zero2 c_19
                · skip
                  have J199 : ∀  (H : Heap) (locs : List Loc) (ls : Array Slot) (cells slots : Nat), cells ≤ 20 → slots ≤ 120 → MB E g ln bf z (kpK ke - 1) (pushH ke hs z) H → va_S (fun q => wF 94 g q ∨ sz ≤ q) s.heap H locs → lv_has ls 16 [(8, .int ((ndM y.1 k false 100 0 (y.2.2.2 u).2))), (2, .int (nI k)), (1, .int (nI u)), (0, .ref ((g 0)))] → W p l e (headSpec wsL_isNeedSo ({ frames := 8, cells := 474, slots := 3474, locals := 175 })).room s m ([.ref ((g 0)), .int (nI u), .int (nI k)] : List Value).toArray below meth c H locs (cells) (slots) (MQ below (va_Qi (fun (r : Int32) (_ : Nat × (Nat → SS)) => r = nI 1) (fun v t => MB E g ln bf z v.1 v.2 t.heap) (fun q => wF 94 g q ∨ sz ≤ q)) ([.ref ((g 0)), .int (nI u), .int (nI k)] : List Value).toArray s 474 3474 (fun q => wF 94 g q ∨ sz ≤ q)) (F0 m 199 ls []) := by
                    intro  H locs ls cells slots hc9 hs9 hM hS hl
                    refine lv_iconst (v := (nI 1)) hx hb dL_isNeedSo_199 (by decide) ?_
                    refine lv_goto (tgt := 204) hx hb dL_isNeedSo_200 (by decide) ?_
                    refine lv_istore (lv' := [(6, .int (nI 1)), (8, .int ((ndM y.1 k false 100 0 (y.2.2.2 u).2))), (2, .int (nI k)), (1, .int (nI u)), (0, .ref ((g 0)))]) hx hb dL_isNeedSo_204 hl (by decide) rfl (fun ls hl => ?_)
                    rcases nd_rng (nb := y.1) (fr := k) (el := false) 100 0 (y.2.2.2 u).2 rfl with eN | ⟨v, _, hv, eN⟩
                    · rw [eN] at hl
                      refine lv_iload hx hb dL_isNeedSo_206 (lv_at hl 1 rfl) ?_
                      refine lv_iconst (v := (nI 1)) hx hb dL_isNeedSo_208 (by decide) ?_
                      refine lv_icmp_lt (tgt := 219) hx hb dL_isNeedSo_209 (by decide) (fun c_20 => ?_) (fun c_20 => ?_)
                      · skip
                        refine lv_iload hx hb dL_isNeedSo_219 (lv_at hl 0 rfl) ?_
                        refine W.widen (k := 474) (n := 3474) (show cells ≤ 474 by omega) (show slots ≤ 3474 by omega) ?_
                        exact W.zret (v := (nI 1)) hx hb hr rfl (fun t ht hW => ⟨⟨_, (kpK ke - 1, pushH ke hs z), rfl, rfl, (by show MB E g ln bf z _ _ t.heap; rw [ht]; exact hM)⟩, hS.F ht⟩) hS.2.2 dL_isNeedSo_221
                      · exact absurd (by decide) c_20
                    · rw [eN] at hl
                      refine lv_iload hx hb dL_isNeedSo_206 (lv_at hl 1 rfl) ?_
                      refine lv_iconst (v := (nI 1)) hx hb dL_isNeedSo_208 (by decide) ?_
                      refine lv_icmp_lt (tgt := 219) hx hb dL_isNeedSo_209 (by decide) (fun c_21 => ?_) (fun c_21 => ?_)
                      · have f_c_21 : v < 1 := (nI_ltI (a := v) (b := 1) (by omega) (by omega)).mp c_21
                        refine lv_iload hx hb dL_isNeedSo_219 (lv_at hl 0 rfl) ?_
                        refine W.widen (k := 474) (n := 3474) (show cells ≤ 474 by omega) (show slots ≤ 3474 by omega) ?_
                        exact W.zret (v := (nI 1)) hx hb hr rfl (fun t ht hW => ⟨⟨_, (kpK ke - 1, pushH ke hs z), rfl, rfl, (by show MB E g ln bf z _ _ t.heap; rw [ht]; exact hM)⟩, hS.F ht⟩) hS.2.2 dL_isNeedSo_221
                      · have f_c_21 : ¬ v < 1 := fun z9 => c_21 ((nI_ltI (a := v) (b := 1) (by omega) (by omega)).mpr z9)
                        refine lv_iload hx hb dL_isNeedSo_212 (lv_at hl 1 rfl) ?_
                        refine lv_bipush (v := (nI 40)) hx hb dL_isNeedSo_214 (by decide) ?_
                        refine lv_icmp_le (tgt := 222) hx hb dL_isNeedSo_216 (by decide) (fun c_22 => ?_) (fun c_22 => ?_)
                        · have f_c_22 : v ≤ 40 := (nI_leI (a := v) (b := 40) (by omega) (by omega)).mp c_22
                          have hzz : sz ≤ H.size := by have h8 := hS.1; omega
                          have hgl := hM.lt
                          refine w_newo (C := RX5) (T := TX5) (N := 7) (ci := 5) (fs := [.null, .null, .null, .int 0, .null, .null, .null]) hx hb hts inN5 tyX5 tyX5_ok hown (hts (.classLink RL 15 RX5) (List.mem_of_getElem? (i := 1) rfl)) (hts (.instantiable RX5 7) (List.mem_of_getElem? (i := 2) rfl)) (hts (.initialized RX5) (List.mem_of_getElem? (i := 3) rfl)) hK hS rfl (by decide +kernel) (show cells + 1 ≤ 474 by omega) (show slots + 7 ≤ 3474 by omega) dL_isNeedSo_222 (fun H_0 hB_0 hz_0 ho_0 hS => ?_)
                          refine lv_dup hx hb dL_isNeedSo_225 rfl ?_
                          have hFc : ∀ q, cAt H.size H_0.size q → (wF 94 g q ∨ sz ≤ q) := fun q h7 => by
                            right
                            rcases h7 with h7 | h7 <;> omega
                          have hM := hM.keep ho_0
                          refine va_callv (va_runI (As := []) (rest := [.ref H.size]) ⟨hx, hb, hml, hown, hts⟩ (c_X5_init l E H.size H_0.size) (cwI 0 hts gL_isNeedSo_X5_init rfl rfl rfl (hts (.initialized RX5) (List.mem_of_getElem? (i := 3) rfl)) (hts (.methodLink RL 84 yX5_init) (List.mem_of_getElem? (i := 208) rfl)) (hts (.instanceMethod yX5_init) (List.mem_of_getElem? (i := 209) rfl)) rfl (by decide +kernel) ⟨Nat.le_of_ble_eq_true rfl, Nat.le_of_ble_eq_true rfl⟩) ⟨wCq.blind, fun U hU hW => wCq.go hB_0 hK hO3 hO4 hU hW⟩ rfl rfl hl.1 rfl (lv_room (Nat.le_of_ble_eq_true rfl)) dL_isNeedSo_226 ⟨(show cells + 1 + 93 ≤ 474 by omega), (show slots + 7 + 1187 ≤ 3474 by omega)⟩) hS (fun q _ h => hFc q h) hFc (fun uu t H_1 locs_1 ht hvm hw hB hzq hk1 hS => ?_)
                          rw [ht] at hB
                          obtain ⟨g2, hg0, hgs, hI2, hM2⟩ := hB
                          rw [← hg0]
                          have hga : ∀ k, k < 94 → sz ≤ g2 k := fun k hk => (Nat.eq_zero_or_pos k).elim (fun h7 => by rw [h7, hg0]; exact hzz) (fun h7 => by have h8 := hgs k h7 hk; omega)
                          have hM := hM.at hk1 (fun k hk h7 => by have h8 := hgl k hk; rcases h7 with h7 | h7 <;> omega)
                          have hg2 : ∀ q, wF 94 g2 q → sz ≤ q := by rintro q ⟨k, hk, rfl⟩; exact hga k hk
                          have hds2 : ∀ k, k < 94 → ¬ wF 94 g (g2 k) := by rintro k hk ⟨j, hj, e9⟩; have h8 := hga k hk; have h9 := hgl0 j hj; omega
                          have hds1 : ∀ k, k < 94 → ¬ wF 94 g2 (g k) := by rintro k hk ⟨j, hj, e9⟩; have h8 := hga j hj; have h9 := hgl0 k hk; omega
                          refine lv_astore (lv' := [(10, .ref ((g2 0))), (6, .int (nI 1)), (8, .int (nI v)), (2, .int (nI k)), (1, .int (nI u)), (0, .ref ((g 0)))]) hx hb dL_isNeedSo_229 hl (by decide) rfl (fun ls hl => ?_)
                          refine lv_aload hx hb dL_isNeedSo_231 (lv_at hl 0 rfl) ?_
                          refine lv_aload_n hx hb dL_isNeedSo_233 rfl (lv_at hl 5 rfl) ?_
                          refine lv_iconst (v := (nI 0)) hx hb dL_isNeedSo_234 (by decide) ?_
                          refine va_calli (va_runV (As := [.int (nI 0)]) (rest := [.ref ((g2 0))]) ⟨hx, hb, hml, hown, hts⟩ (n_count0 l hst E g ln bf z (kpK ke - 1) (pushH ke hs z) hz) (cwV 1 hts gL_isNeedSo_X5_count rfl rfl rfl (by decide +kernel) ⟨Nat.le_of_ble_eq_true rfl, Nat.le_of_ble_eq_true rfl⟩) ⟨wSx.blind, (w_recv hK hM.main 0 (by decide) rfl (ci := 5) rfl), fun U hU hW => wSx.go hM hK hI hxe hS (fun q h => Or.inl h) hU hW⟩ rfl rfl hl.1 rfl (lv_room (Nat.le_of_ble_eq_true rfl)) dL_isNeedSo_235 ⟨(show cells + 1 + 93 + 1 ≤ 474 by omega), (show slots + 7 + 1187 + 6 ≤ 3474 by omega)⟩) hS (fun q _ h => (fun q h => Or.inl h) q h) (fun q h => Or.inl h) (fun r_23 uu t H_23 locs_23 ht hvm hw hB hzq hk1 hS => ?_)
                          rw [ht] at hB
                          have hM := hB
                          have hM2 := hM2.at hk1 hds2
                          obtain rfl : r_23 = nI y.1 := hw
                          refine va_calli (va_runV (As := [.int (nI y.1)]) (rest := []) ⟨hx, hb, hml, hown, hts⟩ (n_size l hst E g2 0 (fun _ => 0) ss0 0 (fun _ => ss0) (n := y.1) hn2 hn12) (cwV 1 hts gL_isNeedSo_X5_size rfl rfl rfl (by decide +kernel) ⟨Nat.le_of_ble_eq_true rfl, Nat.le_of_ble_eq_true rfl⟩) ⟨wSx.blind, (w_recv hK hM2.main 0 (by decide) rfl (ci := 5) rfl), fun U hU hW => wSx.go hM2 hK hI2 hxe hS (fun q h => Or.inr (hg2 q h)) hU hW⟩ rfl rfl hl.1 rfl (lv_room (Nat.le_of_ble_eq_true rfl)) dL_isNeedSo_238 ⟨(show cells + 1 + 93 + 1 + 1 ≤ 474 by omega), (show slots + 7 + 1187 + 6 + 6 ≤ 3474 by omega)⟩) hS (fun q _ h => (fun q h => Or.inr (hg2 q h)) q h) (fun q h => Or.inr (hg2 q h)) (fun r_24 uu t H_24 locs_24 ht hvm hw hB hzq hk1 hS => ?_)
                          rw [ht] at hB
                          have hM2 := hB
                          have hM := hM.at hk1 hds1
                          obtain rfl : r_24 = nI ss0.1 := hw
                          refine lv_istore (lv' := [(11, .int (nI ss0.1)), (10, .ref ((g2 0))), (6, .int (nI 1)), (8, .int (nI v)), (2, .int (nI k)), (1, .int (nI u)), (0, .ref ((g 0)))]) hx hb dL_isNeedSo_241 hl (by decide) rfl (fun ls hl => ?_)
                          refine lv_aload hx hb dL_isNeedSo_243 (lv_at hl 1 rfl) ?_
                          refine lv_iconst (v := (nI 0)) hx hb dL_isNeedSo_245 (by decide) ?_
                          refine lv_iconst (v := (nI 1)) hx hb dL_isNeedSo_246 (by decide) ?_
                          refine W.eq (g2 := F0 m 247 ls [.int (bI true), .int (nI 0), .ref (g2 0)]) rfl ?_
                          refine va_calli (va_runV (As := [.int (nI 0), .int ((bI true))]) (rest := []) ⟨hx, hb, hml, hown, hts⟩ (n_listen l hst E g2 0 (fun _ => 0) (sizeZ ss0 y.1) (kpK 0) (pushH 0 (fun _ => ss0) ss0) (u := 0) (by decide) true) (cwV 2 hts gL_isNeedSo_X5_listen rfl rfl rfl (by decide +kernel) ⟨Nat.le_of_ble_eq_true rfl, Nat.le_of_ble_eq_true rfl⟩) ⟨wSx.blind, (w_recv hK hM2.main 0 (by decide) rfl (ci := 5) rfl), fun U hU hW => wSx.go hM2 hK hI2 hxe hS (fun q h => Or.inr (hg2 q h)) hU hW⟩ rfl rfl hl.1 rfl (lv_room (Nat.le_of_ble_eq_true rfl)) dL_isNeedSo_247 ⟨(show cells + 1 + 93 + 1 + 1 + 1 ≤ 474 by omega), (show slots + 7 + 1187 + 6 + 6 + 6 ≤ 3474 by omega)⟩) hS (fun q _ h => (fun q h => Or.inr (hg2 q h)) q h) (fun q h => Or.inr (hg2 q h)) (fun r_25 uu t H_25 locs_25 ht hvm hw hB hzq hk1 hS => ?_)
                          rw [ht] at hB
                          have hM2 := hB
                          have hM := hM.at hk1 hds1
                          obtain rfl : r_25 = (bI ((sizeZ ss0 y.1).2.2.2 0).1) := hw
                          refine lv_istore (lv' := [(12, .int ((bI ((sizeZ ss0 y.1).2.2.2 0).1))), (11, .int (nI ss0.1)), (10, .ref ((g2 0))), (6, .int (nI 1)), (8, .int (nI v)), (2, .int (nI k)), (1, .int (nI u)), (0, .ref ((g 0)))]) hx hb dL_isNeedSo_250 hl (by decide) rfl (fun ls hl => ?_)
                          refine lv_iconst (v := (nI 0)) hx hb dL_isNeedSo_252 (by decide) ?_
                          refine lv_istore (lv' := [(13, .int (nI 0)), (12, .int ((bI ((sizeZ ss0 y.1).2.2.2 0).1))), (11, .int (nI ss0.1)), (10, .ref ((g2 0))), (6, .int (nI 1)), (8, .int (nI v)), (2, .int (nI k)), (1, .int (nI u)), (0, .ref ((g 0)))]) hx hb dL_isNeedSo_253 hl (by decide) rfl (fun ls hl => ?_)
                          have L255 : ∀ (n : Nat) (b : Nat) (z2 : SS) (ke2 : Nat) (hs2 : Nat → SS) (H : Heap) (locs : List Loc) (ls : Array Slot) (cells slots : Nat), b + n = y.1 → othP y.1 z2 → cells + n * 4 ≤ 165 → slots + n * 24 ≤ 1620 → MB E g ln bf z (kpK ke - 1) (pushH ke hs z) H → MB E g2 0 (fun _ => 0) z2 ke2 hs2 H → va_S (fun q => wF 94 g q ∨ sz ≤ q) s.heap H locs → lv_has ls 16 [(13, .int (nI b)), (10, .ref ((g2 0))), (8, .int (nI v)), (6, .int (nI 1)), (2, .int (nI k)), (1, .int (nI u)), (0, .ref ((g 0)))] → W p l e (headSpec wsL_isNeedSo ({ frames := 8, cells := 474, slots := 3474, locals := 175 })).room s m ([.ref ((g 0)), .int (nI u), .int (nI k)] : List Value).toArray below meth c H locs (cells) (slots) (MQ below (va_Qi (fun (r : Int32) (_ : Nat × (Nat → SS)) => r = nI 1) (fun v t => MB E g ln bf z v.1 v.2 t.heap) (fun q => wF 94 g q ∨ sz ≤ q)) ([.ref ((g 0)), .int (nI u), .int (nI k)] : List Value).toArray s 474 3474 (fun q => wF 94 g q ∨ sz ≤ q)) (F0 m 255 ls []) := by
                            intro n
                            induction n with
                            | zero =>
                              intro b z2 ke2 hs2 H locs ls cells slots hbn ho9 hc9 hs9 hM hM2 hS hl
                              refine lv_iload hx hb dL_isNeedSo_255 (lv_at hl 0 rfl) ?_
                              refine lv_aload_n hx hb dL_isNeedSo_257 rfl (lv_at hl 6 rfl) ?_
                              refine lv_iconst (v := (nI 0)) hx hb dL_isNeedSo_258 (by decide) ?_
                              refine va_calli (va_runV (As := [.int (nI 0)]) (rest := [.int (nI b)]) ⟨hx, hb, hml, hown, hts⟩ (n_count0 l hst E g ln bf z (kpK ke - 1) (pushH ke hs z) hz) (cwV 1 hts gL_isNeedSo_X5_count rfl rfl rfl (by decide +kernel) ⟨Nat.le_of_ble_eq_true rfl, Nat.le_of_ble_eq_true rfl⟩) ⟨wSx.blind, (w_recv hK hM.main 0 (by decide) rfl (ci := 5) rfl), fun U hU hW => wSx.go hM hK hI hxe hS (fun q h => Or.inl h) hU hW⟩ rfl rfl hl.1 rfl (lv_room (Nat.le_of_ble_eq_true rfl)) dL_isNeedSo_259 ⟨(show cells + 1 ≤ 474 by omega), (show slots + 6 ≤ 3474 by omega)⟩) hS (fun q _ h => (fun q h => Or.inl h) q h) (fun q h => Or.inl h) (fun r_26 uu t H_26 locs_26 ht hvm hw hB hzq hk1 hS => ?_)
                              rw [ht] at hB
                              have hM := hB
                              have hM2 := hM2.at hk1 hds2
                              obtain rfl : r_26 = nI y.1 := hw
                              refine lv_icmp_ge (tgt := 286) hx hb dL_isNeedSo_262 (by decide) (fun c_27 => ?_) (fun c_27 => ?_)
                              · skip
                                refine lv_aload hx hb dL_isNeedSo_286 (lv_at hl 1 rfl) ?_
                                refine lv_iconst (v := (nI 0)) hx hb dL_isNeedSo_288 (by decide) ?_
                                refine lv_iload_n hx hb dL_isNeedSo_289 rfl (lv_at hl 4 rfl) ?_
                                refine lv_iconst (v := (nI 0)) hx hb dL_isNeedSo_290 (by decide) ?_
                                refine W.eq (g2 := F0 m 291 ls [.int (bI false), .int (nI k), .int (nI 0), .ref (g2 0)]) rfl ?_
                                obtain ⟨y2, hz2, ho1, ho2, ho3, ho4⟩ := id ho9
                                refine va_calli (va_runV (As := [.int (nI 0), .int (nI k), .int ((bI false))]) (rest := []) ⟨hx, hb, hml, hown, hts⟩ (n_needs l hst E g2 0 (fun _ => 0) z2 ke2 hs2 hz2 (u := 0) (by decide) hk false) (cwV 3 hts gL_isNeedSo_X5_needs rfl rfl rfl (by decide +kernel) ⟨Nat.le_of_ble_eq_true rfl, Nat.le_of_ble_eq_true rfl⟩) ⟨wSx.blind, (w_recv hK hM2.main 0 (by decide) rfl (ci := 5) rfl), fun U hU hW => wSx.go hM2 hK hI2 hxe hS (fun q h => Or.inr (hg2 q h)) hU hW⟩ rfl rfl hl.1 rfl (lv_room (Nat.le_of_ble_eq_true rfl)) dL_isNeedSo_291 ⟨(show cells + 1 + 2 ≤ 474 by omega), (show slots + 6 + 12 ≤ 3474 by omega)⟩) hS (fun q _ h => (fun q h => Or.inr (hg2 q h)) q h) (fun q h => Or.inr (hg2 q h)) (fun r_28 uu t H_28 locs_28 ht hvm hw hB hzq hk1 hS => ?_)
                                rw [ht] at hB
                                have hM2 := hB
                                have hM := hM.at hk1 hds1
                                obtain rfl : r_28 = (ndM y2.1 k false 100 0 (y2.2.2.2 0).2) := hw
                                rw [ho1]
                                have hFN : pc (y.2.2.2 u).2.1 + (y.2.2.2 u).2.2.2.2.2.length = 0 → (ndM y.1 k false 100 0 (y2.2.2.2 0).2) = (ndM y.1 k false 100 0 (y.2.2.2 u).2) := fun h9 => nd_kw 100 0 _ _ (ho3.trans (kw_zero hK4 h9).1.symm) (ho4.trans (kw_zero hK4 h9).2.symm)
                                rcases nd_rng (nb := y.1) (fr := k) (el := false) 100 0 (y2.2.2.2 0).2 rfl with eF | ⟨f, _, hf, eF⟩
                                · rw [eF]
                                  refine lv_istore (lv' := [(13, .int ((-1))), (10, .ref ((g2 0))), (8, .int (nI v)), (6, .int (nI 1)), (2, .int (nI k)), (1, .int (nI u)), (0, .ref ((g 0)))]) hx hb dL_isNeedSo_294 hl (by decide) rfl (fun ls hl => ?_)
                                  refine lv_iconst (v := (nI 0)) hx hb dL_isNeedSo_296 (by decide) ?_
                                  refine lv_istore (lv' := [(14, .int (nI 0)), (13, .int ((-1))), (10, .ref ((g2 0))), (8, .int (nI v)), (6, .int (nI 1)), (2, .int (nI k)), (1, .int (nI u)), (0, .ref ((g 0)))]) hx hb dL_isNeedSo_297 hl (by decide) rfl (fun ls hl => ?_)
                                  refine lv_iload hx hb dL_isNeedSo_299 (lv_at hl 0 rfl) ?_
                                  refine lv_iload hx hb dL_isNeedSo_301 (lv_at hl 1 rfl) ?_
                                  refine lv_icmp_ge (tgt := 346) hx hb dL_isNeedSo_303 (by decide) (fun c_29 => ?_) (fun c_29 => ?_)
                                  · skip
                                    refine lv_iload hx hb dL_isNeedSo_346 (lv_at hl 4 rfl) ?_
                                    refine lv_if_eq (tgt := 395) hx hb dL_isNeedSo_348 (by decide) (fun c_30 => ?_) (fun c_30 => ?_)
                                    · exact absurd c_30 (by decide)
                                    · skip
                                      refine lv_iload hx hb dL_isNeedSo_351 (lv_at hl 1 rfl) ?_
                                      refine lv_if_lt (tgt := 368) hx hb dL_isNeedSo_353 (by decide) (fun c_31 => ?_) (fun c_31 => ?_)
                                      · skip
                                        refine lv_aload_n hx hb dL_isNeedSo_368 rfl (lv_at hl 7 rfl) ?_
                                        refine lv_iload_n hx hb dL_isNeedSo_369 rfl (lv_at hl 6 rfl) ?_
                                        refine lv_iconst (v := (nI 1)) hx hb dL_isNeedSo_370 (by decide) ?_
                                        refine va_calli (va_runV (As := [.int (nI u), .int (nI 1)]) (rest := []) ⟨hx, hb, hml, hown, hts⟩ (n_rec1 l hst E g ln bf z (kpK ke - 1) (pushH ke hs z) hz hu) (cwV 2 hts gL_isNeedSo_X5_receiver rfl rfl rfl (by decide +kernel) ⟨Nat.le_of_ble_eq_true rfl, Nat.le_of_ble_eq_true rfl⟩) ⟨wSx.blind, (w_recv hK hM.main 0 (by decide) rfl (ci := 5) rfl), fun U hU hW => wSx.go hM hK hI hxe hS (fun q h => Or.inl h) hU hW⟩ rfl rfl hl.1 rfl (lv_room (Nat.le_of_ble_eq_true rfl)) dL_isNeedSo_371 ⟨(show cells + 1 + 2 + 2 ≤ 474 by omega), (show slots + 6 + 12 + 12 ≤ 3474 by omega)⟩) hS (fun q _ h => (fun q h => Or.inl h) q h) (fun q h => Or.inl h) (fun r_32 uu t H_32 locs_32 ht hvm hw hB hzq hk1 hS => ?_)
                                        rw [ht] at hB
                                        have hM := hB
                                        have hM2 := hM2.at hk1 hds2
                                        obtain rfl : r_32 = nI (pc (y.2.2.2 u).2.1) := hw
                                        refine lv_aload_n hx hb dL_isNeedSo_374 rfl (lv_at hl 7 rfl) ?_
                                        refine lv_iload_n hx hb dL_isNeedSo_375 rfl (lv_at hl 6 rfl) ?_
                                        refine lv_iconst (v := (nI 3)) hx hb dL_isNeedSo_376 (by decide) ?_
                                        refine va_calli (va_runV (As := [.int (nI u), .int (nI 3)]) (rest := [.int (nI (pc (y.2.2.2 u).2.1))]) ⟨hx, hb, hml, hown, hts⟩ (n_rec3 l hst E g ln bf z (kpK ke - 1) (pushH ke hs z) hz hu) (cwV 2 hts gL_isNeedSo_X5_receiver rfl rfl rfl (by decide +kernel) ⟨Nat.le_of_ble_eq_true rfl, Nat.le_of_ble_eq_true rfl⟩) ⟨wSx.blind, (w_recv hK hM.main 0 (by decide) rfl (ci := 5) rfl), fun U hU hW => wSx.go hM hK hI hxe hS (fun q h => Or.inl h) hU hW⟩ rfl rfl hl.1 rfl (lv_room (Nat.le_of_ble_eq_true rfl)) dL_isNeedSo_377 ⟨(show cells + 1 + 2 + 2 + 2 ≤ 474 by omega), (show slots + 6 + 12 + 12 + 12 ≤ 3474 by omega)⟩) hS (fun q _ h => (fun q h => Or.inl h) q h) (fun q h => Or.inl h) (fun r_33 uu t H_33 locs_33 ht hvm hw hB hzq hk1 hS => ?_)
                                        rw [ht] at hB
                                        have hM := hB
                                        have hM2 := hM2.at hk1 hds2
                                        obtain rfl : r_33 = nI ((y.2.2.2 u).2.2.2.2.2.length) := hw
                                        refine lv_iadd hx hb dL_isNeedSo_380 ?_
                                        rw [show nI (pc (y.2.2.2 u).2.1) + nI ((y.2.2.2 u).2.2.2.2.2.length) = nI ((pc (y.2.2.2 u).2.1) + ((y.2.2.2 u).2.2.2.2.2.length)) from nI_add _ _]
                                        refine lv_if_gt (tgt := 391) hx hb dL_isNeedSo_381 (by decide) (fun c_34 => ?_) (fun c_34 => ?_)
                                        · have f_c_34 : 0 < ((pc (y.2.2.2 u).2.1) + ((y.2.2.2 u).2.2.2.2.2.length)) := (nI_ltI (a := 0) (b := ((pc (y.2.2.2 u).2.1) + ((y.2.2.2 u).2.2.2.2.2.length))) (by omega) (by omega)).mp c_34
                                          refine lv_iconst (v := (nI 1)) hx hb dL_isNeedSo_391 (by decide) ?_
                                          refine lv_goto (tgt := 396) hx hb dL_isNeedSo_392 (by decide) ?_
                                          refine W.widen (k := 474) (n := 3474) (show cells + 1 + 2 + 2 + 2 ≤ 474 by omega) (show slots + 6 + 12 + 12 + 12 ≤ 3474 by omega) ?_
                                          exact W.zret (v := (nI 1)) hx hb hr rfl (fun t ht hW => ⟨⟨_, (kpK ke - 1, pushH ke hs z), rfl, rfl, (by show MB E g ln bf z _ _ t.heap; rw [ht]; exact hM)⟩, hS.F ht⟩) hS.2.2 dL_isNeedSo_396
                                        · have f_c_34 : ¬ 0 < ((pc (y.2.2.2 u).2.1) + ((y.2.2.2 u).2.2.2.2.2.length)) := fun z9 => c_34 ((nI_ltI (a := 0) (b := ((pc (y.2.2.2 u).2.1) + ((y.2.2.2 u).2.2.2.2.2.length))) (by omega) (by omega)).mpr z9)
                                          refine lv_iload hx hb dL_isNeedSo_384 (lv_at hl 1 rfl) ?_
                                          refine lv_iload hx hb dL_isNeedSo_386 (lv_at hl 3 rfl) ?_
                                          refine lv_icmp_ne (tgt := 395) hx hb dL_isNeedSo_388 (by decide) (fun c_35 => ?_) (fun c_35 => ?_)
                                          · exact absurd (eF.symm.trans ((hFN (by omega)).trans eN)) c_35
                                          · skip
                                            refine lv_iconst (v := (nI 1)) hx hb dL_isNeedSo_391 (by decide) ?_
                                            refine lv_goto (tgt := 396) hx hb dL_isNeedSo_392 (by decide) ?_
                                            refine W.widen (k := 474) (n := 3474) (show cells + 1 + 2 + 2 + 2 ≤ 474 by omega) (show slots + 6 + 12 + 12 + 12 ≤ 3474 by omega) ?_
                                            exact W.zret (v := (nI 1)) hx hb hr rfl (fun t ht hW => ⟨⟨_, (kpK ke - 1, pushH ke hs z), rfl, rfl, (by show MB E g ln bf z _ _ t.heap; rw [ht]; exact hM)⟩, hS.F ht⟩) hS.2.2 dL_isNeedSo_396
                                      · exact absurd (by decide) c_31
                                  · exact absurd (by decide) c_29
                                · rw [eF]
                                  refine lv_istore (lv' := [(13, .int (nI f)), (10, .ref ((g2 0))), (8, .int (nI v)), (6, .int (nI 1)), (2, .int (nI k)), (1, .int (nI u)), (0, .ref ((g 0)))]) hx hb dL_isNeedSo_294 hl (by decide) rfl (fun ls hl => ?_)
                                  refine lv_iconst (v := (nI 0)) hx hb dL_isNeedSo_296 (by decide) ?_
                                  refine lv_istore (lv' := [(14, .int (nI 0)), (13, .int (nI f)), (10, .ref ((g2 0))), (8, .int (nI v)), (6, .int (nI 1)), (2, .int (nI k)), (1, .int (nI u)), (0, .ref ((g 0)))]) hx hb dL_isNeedSo_297 hl (by decide) rfl (fun ls hl => ?_)
                                  have L299 : ∀ (n : Nat) (j : Nat) (z3 : SS) (ke3 : Nat) (hs3 : Nat → SS) (H : Heap) (locs : List Loc) (ls : Array Slot) (cells slots : Nat), j + n = f → othQ y.1 k j f z3 → cells + n * 3 ≤ 468 → slots + n * 18 ≤ 3438 → MB E g ln bf z (kpK ke - 1) (pushH ke hs z) H → MB E g2 0 (fun _ => 0) z3 ke3 hs3 H → va_S (fun q => wF 94 g q ∨ sz ≤ q) s.heap H locs → lv_has ls 16 [(14, .int (nI j)), (13, .int (nI f)), (10, .ref ((g2 0))), (8, .int (nI v)), (6, .int (nI 1)), (2, .int (nI k)), (1, .int (nI u)), (0, .ref ((g 0)))] → W p l e (headSpec wsL_isNeedSo ({ frames := 8, cells := 474, slots := 3474, locals := 175 })).room s m ([.ref ((g 0)), .int (nI u), .int (nI k)] : List Value).toArray below meth c H locs (cells) (slots) (MQ below (va_Qi (fun (r : Int32) (_ : Nat × (Nat → SS)) => r = nI 1) (fun v t => MB E g ln bf z v.1 v.2 t.heap) (fun q => wF 94 g q ∨ sz ≤ q)) ([.ref ((g 0)), .int (nI u), .int (nI k)] : List Value).toArray s 474 3474 (fun q => wF 94 g q ∨ sz ≤ q)) (F0 m 299 ls []) := by
                                    intro n
                                    induction n with
                                    | zero =>
                                      intro j z3 ke3 hs3 H locs ls cells slots hjn hq9 hc9 hs9 hM hM2 hS hl
                                      obtain ⟨y3, hz3, h31, h32, h33⟩ := id hq9
                                      refine lv_iload hx hb dL_isNeedSo_299 (lv_at hl 0 rfl) ?_
                                      refine lv_iload hx hb dL_isNeedSo_301 (lv_at hl 1 rfl) ?_
                                      refine lv_icmp_ge (tgt := 346) hx hb dL_isNeedSo_303 (by decide) (fun c_36 => ?_) (fun c_36 => ?_)
                                      · skip
                                        refine lv_iload hx hb dL_isNeedSo_346 (lv_at hl 4 rfl) ?_
                                        refine lv_if_eq (tgt := 395) hx hb dL_isNeedSo_348 (by decide) (fun c_37 => ?_) (fun c_37 => ?_)
                                        · exact absurd c_37 (by decide)
                                        · skip
                                          refine lv_iload hx hb dL_isNeedSo_351 (lv_at hl 1 rfl) ?_
                                          refine lv_if_lt (tgt := 368) hx hb dL_isNeedSo_353 (by decide) (fun c_38 => ?_) (fun c_38 => ?_)
                                          · exfalso
                                            have f_c_38 : f < 0 := (nI_ltI (a := f) (b := 0) (by omega) (by omega)).mp c_38
                                            omega
                                          · skip
                                            refine lv_aload hx hb dL_isNeedSo_356 (lv_at hl 2 rfl) ?_
                                            refine lv_iconst (v := (nI 0)) hx hb dL_isNeedSo_358 (by decide) ?_
                                            refine lv_bipush (v := (nI 7)) hx hb dL_isNeedSo_359 (by decide) ?_
                                            refine va_calli (va_runV (As := [.int (nI 0), .int (nI 7)]) (rest := []) ⟨hx, hb, hml, hown, hts⟩ (n_rec7 l hst E g2 0 (fun _ => 0) z3 ke3 hs3 hz3 (u := 0) (by decide)) (cwV 2 hts gL_isNeedSo_X5_receiver rfl rfl rfl (by decide +kernel) ⟨Nat.le_of_ble_eq_true rfl, Nat.le_of_ble_eq_true rfl⟩) ⟨wSx.blind, (w_recv hK hM2.main 0 (by decide) rfl (ci := 5) rfl), fun U hU hW => wSx.go hM2 hK hI2 hxe hS (fun q h => Or.inr (hg2 q h)) hU hW⟩ rfl rfl hl.1 rfl (lv_room (Nat.le_of_ble_eq_true rfl)) dL_isNeedSo_361 ⟨(show cells + 2 ≤ 474 by omega), (show slots + 12 ≤ 3474 by omega)⟩) hS (fun q _ h => (fun q h => Or.inr (hg2 q h)) q h) (fun q h => Or.inr (hg2 q h)) (fun r_39 uu t H_39 locs_39 ht hvm hw hB hzq hk1 hS => ?_)
                                            rw [ht] at hB
                                            have hM2 := hB
                                            have hM := hM.at hk1 hds1
                                            obtain rfl : r_39 = (bI (isDM y3.1 (y3.2.2.2 0).2)) := hw
                                            rw [show bI (isDM y3.1 (y3.2.2.2 0).2) = nI 1 by rw [h31, nd_hit (show j + (100 - j) = 100 by omega) (h33.trans (congrArg nI (show f = j by omega)))]; rfl]
                                            refine lv_iconst (v := (nI 1)) hx hb dL_isNeedSo_364 (by decide) ?_
                                            refine lv_icmp_ne (tgt := 395) hx hb dL_isNeedSo_365 (by decide) (fun c_40 => ?_) (fun c_40 => ?_)
                                            · exact absurd rfl c_40
                                            · skip
                                              refine lv_aload_n hx hb dL_isNeedSo_368 rfl (lv_at hl 7 rfl) ?_
                                              refine lv_iload_n hx hb dL_isNeedSo_369 rfl (lv_at hl 6 rfl) ?_
                                              refine lv_iconst (v := (nI 1)) hx hb dL_isNeedSo_370 (by decide) ?_
                                              refine va_calli (va_runV (As := [.int (nI u), .int (nI 1)]) (rest := []) ⟨hx, hb, hml, hown, hts⟩ (n_rec1 l hst E g ln bf z (kpK ke - 1) (pushH ke hs z) hz hu) (cwV 2 hts gL_isNeedSo_X5_receiver rfl rfl rfl (by decide +kernel) ⟨Nat.le_of_ble_eq_true rfl, Nat.le_of_ble_eq_true rfl⟩) ⟨wSx.blind, (w_recv hK hM.main 0 (by decide) rfl (ci := 5) rfl), fun U hU hW => wSx.go hM hK hI hxe hS (fun q h => Or.inl h) hU hW⟩ rfl rfl hl.1 rfl (lv_room (Nat.le_of_ble_eq_true rfl)) dL_isNeedSo_371 ⟨(show cells + 2 + 2 ≤ 474 by omega), (show slots + 12 + 12 ≤ 3474 by omega)⟩) hS (fun q _ h => (fun q h => Or.inl h) q h) (fun q h => Or.inl h) (fun r_41 uu t H_41 locs_41 ht hvm hw hB hzq hk1 hS => ?_)
                                              rw [ht] at hB
                                              have hM := hB
                                              have hM2 := hM2.at hk1 hds2
                                              obtain rfl : r_41 = nI (pc (y.2.2.2 u).2.1) := hw
                                              refine lv_aload_n hx hb dL_isNeedSo_374 rfl (lv_at hl 7 rfl) ?_
                                              refine lv_iload_n hx hb dL_isNeedSo_375 rfl (lv_at hl 6 rfl) ?_
                                              refine lv_iconst (v := (nI 3)) hx hb dL_isNeedSo_376 (by decide) ?_
                                              refine va_calli (va_runV (As := [.int (nI u), .int (nI 3)]) (rest := [.int (nI (pc (y.2.2.2 u).2.1))]) ⟨hx, hb, hml, hown, hts⟩ (n_rec3 l hst E g ln bf z (kpK ke - 1) (pushH ke hs z) hz hu) (cwV 2 hts gL_isNeedSo_X5_receiver rfl rfl rfl (by decide +kernel) ⟨Nat.le_of_ble_eq_true rfl, Nat.le_of_ble_eq_true rfl⟩) ⟨wSx.blind, (w_recv hK hM.main 0 (by decide) rfl (ci := 5) rfl), fun U hU hW => wSx.go hM hK hI hxe hS (fun q h => Or.inl h) hU hW⟩ rfl rfl hl.1 rfl (lv_room (Nat.le_of_ble_eq_true rfl)) dL_isNeedSo_377 ⟨(show cells + 2 + 2 + 2 ≤ 474 by omega), (show slots + 12 + 12 + 12 ≤ 3474 by omega)⟩) hS (fun q _ h => (fun q h => Or.inl h) q h) (fun q h => Or.inl h) (fun r_42 uu t H_42 locs_42 ht hvm hw hB hzq hk1 hS => ?_)
                                              rw [ht] at hB
                                              have hM := hB
                                              have hM2 := hM2.at hk1 hds2
                                              obtain rfl : r_42 = nI ((y.2.2.2 u).2.2.2.2.2.length) := hw
                                              refine lv_iadd hx hb dL_isNeedSo_380 ?_
                                              rw [show nI (pc (y.2.2.2 u).2.1) + nI ((y.2.2.2 u).2.2.2.2.2.length) = nI ((pc (y.2.2.2 u).2.1) + ((y.2.2.2 u).2.2.2.2.2.length)) from nI_add _ _]
                                              refine lv_if_gt (tgt := 391) hx hb dL_isNeedSo_381 (by decide) (fun c_43 => ?_) (fun c_43 => ?_)
                                              · have f_c_43 : 0 < ((pc (y.2.2.2 u).2.1) + ((y.2.2.2 u).2.2.2.2.2.length)) := (nI_ltI (a := 0) (b := ((pc (y.2.2.2 u).2.1) + ((y.2.2.2 u).2.2.2.2.2.length))) (by omega) (by omega)).mp c_43
                                                refine lv_iconst (v := (nI 1)) hx hb dL_isNeedSo_391 (by decide) ?_
                                                refine lv_goto (tgt := 396) hx hb dL_isNeedSo_392 (by decide) ?_
                                                refine W.widen (k := 474) (n := 3474) (show cells + 2 + 2 + 2 ≤ 474 by omega) (show slots + 12 + 12 + 12 ≤ 3474 by omega) ?_
                                                exact W.zret (v := (nI 1)) hx hb hr rfl (fun t ht hW => ⟨⟨_, (kpK ke - 1, pushH ke hs z), rfl, rfl, (by show MB E g ln bf z _ _ t.heap; rw [ht]; exact hM)⟩, hS.F ht⟩) hS.2.2 dL_isNeedSo_396
                                              · have f_c_43 : ¬ 0 < ((pc (y.2.2.2 u).2.1) + ((y.2.2.2 u).2.2.2.2.2.length)) := fun z9 => c_43 ((nI_ltI (a := 0) (b := ((pc (y.2.2.2 u).2.1) + ((y.2.2.2 u).2.2.2.2.2.length))) (by omega) (by omega)).mpr z9)
                                                refine lv_iload hx hb dL_isNeedSo_384 (lv_at hl 1 rfl) ?_
                                                refine lv_iload hx hb dL_isNeedSo_386 (lv_at hl 3 rfl) ?_
                                                refine lv_icmp_ne (tgt := 395) hx hb dL_isNeedSo_388 (by decide) (fun c_44 => ?_) (fun c_44 => ?_)
                                                · exact absurd (eF.symm.trans ((hFN (by omega)).trans eN)) c_44
                                                · skip
                                                  refine lv_iconst (v := (nI 1)) hx hb dL_isNeedSo_391 (by decide) ?_
                                                  refine lv_goto (tgt := 396) hx hb dL_isNeedSo_392 (by decide) ?_
                                                  refine W.widen (k := 474) (n := 3474) (show cells + 2 + 2 + 2 ≤ 474 by omega) (show slots + 12 + 12 + 12 ≤ 3474 by omega) ?_
                                                  exact W.zret (v := (nI 1)) hx hb hr rfl (fun t ht hW => ⟨⟨_, (kpK ke - 1, pushH ke hs z), rfl, rfl, (by show MB E g ln bf z _ _ t.heap; rw [ht]; exact hM)⟩, hS.F ht⟩) hS.2.2 dL_isNeedSo_396
                                      · exfalso
                                        have f_c_36 : ¬ f ≤ j := fun z9 => c_36 ((nI_leI (a := f) (b := j) (by omega) (by omega)).mpr z9)
                                        omega
                                    | succ n ih =>
                                      intro j z3 ke3 hs3 H locs ls cells slots hjn hq9 hc9 hs9 hM hM2 hS hl
                                      obtain ⟨y3, hz3, h31, h32, h33⟩ := id hq9
                                      refine lv_iload hx hb dL_isNeedSo_299 (lv_at hl 0 rfl) ?_
                                      refine lv_iload hx hb dL_isNeedSo_301 (lv_at hl 1 rfl) ?_
                                      refine lv_icmp_ge (tgt := 346) hx hb dL_isNeedSo_303 (by decide) (fun c_45 => ?_) (fun c_45 => ?_)
                                      · exfalso
                                        have f_c_45 : f ≤ j := (nI_leI (a := f) (b := j) (by omega) (by omega)).mp c_45
                                        omega
                                      · skip
                                        refine lv_iload hx hb dL_isNeedSo_306 (lv_at hl 4 rfl) ?_
                                        refine lv_if_eq (tgt := 326) hx hb dL_isNeedSo_308 (by decide) (fun c_46 => ?_) (fun c_46 => ?_)
                                        · exact absurd c_46 (by decide)
                                        · skip
                                          refine lv_aload hx hb dL_isNeedSo_311 (lv_at hl 2 rfl) ?_
                                          refine lv_iconst (v := (nI 0)) hx hb dL_isNeedSo_313 (by decide) ?_
                                          refine lv_bipush (v := (nI 7)) hx hb dL_isNeedSo_314 (by decide) ?_
                                          refine va_calli (va_runV (As := [.int (nI 0), .int (nI 7)]) (rest := []) ⟨hx, hb, hml, hown, hts⟩ (n_rec7 l hst E g2 0 (fun _ => 0) z3 ke3 hs3 hz3 (u := 0) (by decide)) (cwV 2 hts gL_isNeedSo_X5_receiver rfl rfl rfl (by decide +kernel) ⟨Nat.le_of_ble_eq_true rfl, Nat.le_of_ble_eq_true rfl⟩) ⟨wSx.blind, (w_recv hK hM2.main 0 (by decide) rfl (ci := 5) rfl), fun U hU hW => wSx.go hM2 hK hI2 hxe hS (fun q h => Or.inr (hg2 q h)) hU hW⟩ rfl rfl hl.1 rfl (lv_room (Nat.le_of_ble_eq_true rfl)) dL_isNeedSo_316 ⟨(show cells + 2 ≤ 474 by omega), (show slots + 12 ≤ 3474 by omega)⟩) hS (fun q _ h => (fun q h => Or.inr (hg2 q h)) q h) (fun q h => Or.inr (hg2 q h)) (fun r_47 uu t H_47 locs_47 ht hvm hw hB hzq hk1 hS => ?_)
                                          rw [ht] at hB
                                          have hM2 := hB
                                          have hM := hM.at hk1 hds1
                                          obtain rfl : r_47 = (bI (isDM y3.1 (y3.2.2.2 0).2)) := hw
                                          rw [show bI (isDM y3.1 (y3.2.2.2 0).2) = nI 0 by rw [h31, nd_miss (show j + (100 - j) = 100 by omega) hf (by omega) h33]; rfl]
                                          refine lv_if_ne (tgt := 326) hx hb dL_isNeedSo_319 (by decide) (fun c_48 => ?_) (fun c_48 => ?_)
                                          · exact absurd rfl c_48
                                          · skip
                                            refine lv_iconst (v := (nI 1)) hx hb dL_isNeedSo_322 (by decide) ?_
                                            refine lv_goto (tgt := 327) hx hb dL_isNeedSo_323 (by decide) ?_
                                            refine lv_istore (lv' := [(6, .int (nI 1)), (14, .int (nI j)), (13, .int (nI f)), (10, .ref ((g2 0))), (8, .int (nI v)), (2, .int (nI k)), (1, .int (nI u)), (0, .ref ((g 0)))]) hx hb dL_isNeedSo_327 hl (by decide) rfl (fun ls hl => ?_)
                                            refine lv_aload hx hb dL_isNeedSo_329 (lv_at hl 3 rfl) ?_
                                            refine lv_iload_n hx hb dL_isNeedSo_331 rfl (lv_at hl 5 rfl) ?_
                                            refine lv_iload hx hb dL_isNeedSo_332 (lv_at hl 1 rfl) ?_
                                            refine lv_iadd hx hb dL_isNeedSo_334 ?_
                                            rw [show nI k + nI j = nI (k + j) from nI_add _ _]
                                            refine va_calli (va_runV (As := [.int (nI (k + j))]) (rest := []) ⟨hx, hb, hml, hown, hts⟩ (n_send l hst E g2 0 (fun _ => 0) z3 ke3 hs3 hz3 (k := k + j) (by omega)) (cwV 1 hts gL_isNeedSo_X5_send rfl rfl rfl (by decide +kernel) ⟨Nat.le_of_ble_eq_true rfl, Nat.le_of_ble_eq_true rfl⟩) ⟨wSx.blind, (w_recv hK hM2.main 0 (by decide) rfl (ci := 5) rfl), fun U hU hW => wSx.go hM2 hK hI2 hxe hS (fun q h => Or.inr (hg2 q h)) hU hW⟩ rfl rfl hl.1 rfl (lv_room (Nat.le_of_ble_eq_true rfl)) dL_isNeedSo_335 ⟨(show cells + 2 + 1 ≤ 474 by omega), (show slots + 12 + 6 ≤ 3474 by omega)⟩) hS (fun q _ h => (fun q h => Or.inr (hg2 q h)) q h) (fun q h => Or.inr (hg2 q h)) (fun r_49 uu t H_49 locs_49 ht hvm hw hB hzq hk1 hS => ?_)
                                            rw [ht] at hB
                                            have hM2 := hB
                                            have hM := hM.at hk1 hds1
                                            obtain rfl : r_49 = (sumM (mskM y3.1 (k + j)) y3.2.2.2 3) := hw
                                            refine lv_istore (lv' := [(15, .int ((sumM (mskM y3.1 (k + j)) y3.2.2.2 3))), (6, .int (nI 1)), (14, .int (nI j)), (13, .int (nI f)), (10, .ref ((g2 0))), (8, .int (nI v)), (2, .int (nI k)), (1, .int (nI u)), (0, .ref ((g 0)))]) hx hb dL_isNeedSo_338 hl (by decide) rfl (fun ls hl => ?_)
                                            refine lv_iinc (v := (nI (j + 1))) (lv' := [(14, .int (nI (j + 1))), (15, .int ((sumM (mskM y3.1 (k + j)) y3.2.2.2 3))), (6, .int (nI 1)), (13, .int (nI f)), (10, .ref ((g2 0))), (8, .int (nI v)), (2, .int (nI k)), (1, .int (nI u)), (0, .ref ((g 0)))]) hx hb dL_isNeedSo_340 hl (k := 2) rfl (nI_1 _) (by decide) rfl (fun ls hl => ?_)
                                            refine lv_goto (tgt := 299) hx hb dL_isNeedSo_343 (by decide) ?_
                                            exact ih (j + 1) (sendZ z3 (k + j)) (kpK ke3) (pushH ke3 hs3 z3) _ _ ls _ _ (by omega) (othQ_next hq9 hf (by omega)) (by omega) (by omega) hM hM2 hS (lv_sub hl [0, 3, 4, 5, 2, 6, 7, 8] rfl)
                                  exact L299 f 0 _ _ _ _ _ ls _ _ (Nat.zero_add f) ⟨y2, hz2, ho1, ho2, eF⟩ (by omega) (by omega) hM hM2 hS (lv_sub hl [0, 1, 2, 3, 4, 5, 6, 7] rfl)
                              · exfalso
                                have f_c_27 : ¬ y.1 ≤ b := fun z9 => c_27 ((nI_leI (a := y.1) (b := b) (by omega) (by omega)).mpr z9)
                                omega
                            | succ n ih =>
                              intro b z2 ke2 hs2 H locs ls cells slots hbn ho9 hc9 hs9 hM hM2 hS hl
                              have hzb := othP_nb ho9
                              refine lv_iload hx hb dL_isNeedSo_255 (lv_at hl 0 rfl) ?_
                              refine lv_aload_n hx hb dL_isNeedSo_257 rfl (lv_at hl 6 rfl) ?_
                              refine lv_iconst (v := (nI 0)) hx hb dL_isNeedSo_258 (by decide) ?_
                              refine va_calli (va_runV (As := [.int (nI 0)]) (rest := [.int (nI b)]) ⟨hx, hb, hml, hown, hts⟩ (n_count0 l hst E g ln bf z (kpK ke - 1) (pushH ke hs z) hz) (cwV 1 hts gL_isNeedSo_X5_count rfl rfl rfl (by decide +kernel) ⟨Nat.le_of_ble_eq_true rfl, Nat.le_of_ble_eq_true rfl⟩) ⟨wSx.blind, (w_recv hK hM.main 0 (by decide) rfl (ci := 5) rfl), fun U hU hW => wSx.go hM hK hI hxe hS (fun q h => Or.inl h) hU hW⟩ rfl rfl hl.1 rfl (lv_room (Nat.le_of_ble_eq_true rfl)) dL_isNeedSo_259 ⟨(show cells + 1 ≤ 474 by omega), (show slots + 6 ≤ 3474 by omega)⟩) hS (fun q _ h => (fun q h => Or.inl h) q h) (fun q h => Or.inl h) (fun r_50 uu t H_50 locs_50 ht hvm hw hB hzq hk1 hS => ?_)
                              rw [ht] at hB
                              have hM := hB
                              have hM2 := hM2.at hk1 hds2
                              obtain rfl : r_50 = nI y.1 := hw
                              refine lv_icmp_ge (tgt := 286) hx hb dL_isNeedSo_262 (by decide) (fun c_51 => ?_) (fun c_51 => ?_)
                              · exfalso
                                have f_c_51 : y.1 ≤ b := (nI_leI (a := y.1) (b := b) (by omega) (by omega)).mp c_51
                                omega
                              · skip
                                refine lv_aload hx hb dL_isNeedSo_265 (lv_at hl 1 rfl) ?_
                                refine lv_iload hx hb dL_isNeedSo_267 (lv_at hl 0 rfl) ?_
                                refine lv_aload_n hx hb dL_isNeedSo_269 rfl (lv_at hl 6 rfl) ?_
                                refine lv_iload hx hb dL_isNeedSo_270 (lv_at hl 0 rfl) ?_
                                refine va_calli (va_runV (As := [.int (nI b)]) (rest := [.int (nI b), .ref ((g2 0))]) ⟨hx, hb, hml, hown, hts⟩ (n_block l hst E g ln bf z (kpK ke - 1) (pushH ke hs z) hz (by omega)) (cwV 1 hts gL_isNeedSo_X5_block rfl rfl rfl (by decide +kernel) ⟨Nat.le_of_ble_eq_true rfl, Nat.le_of_ble_eq_true rfl⟩) ⟨wSx.blind, (w_recv hK hM.main 0 (by decide) rfl (ci := 5) rfl), fun U hU hW => wSx.go hM hK hI hxe hS (fun q h => Or.inl h) hU hW⟩ rfl rfl hl.1 rfl (lv_room (Nat.le_of_ble_eq_true rfl)) dL_isNeedSo_272 ⟨(show cells + 1 + 1 ≤ 474 by omega), (show slots + 6 + 6 ≤ 3474 by omega)⟩) hS (fun q _ h => (fun q h => Or.inl h) q h) (fun q h => Or.inl h) (fun r_52 uu t H_52 locs_52 ht hvm hw hB hzq hk1 hS => ?_)
                                rw [ht] at hB
                                have hM := hB
                                have hM2 := hM2.at hk1 hds2
                                obtain rfl : r_52 = (y.2.1 b) := hw
                                obtain ⟨v9, hv9, _, ev9⟩ := rz_va hz b
                                rw [ev9]
                                refine va_calli (va_runV (As := [.int (nI b), .int (nI v9)]) (rest := []) ⟨hx, hb, hml, hown, hts⟩ (n_write l hst E g2 0 (fun _ => 0) z2 ke2 hs2 (b := b) (v := v9) (by omega) (by omega) hv9) (cwV 2 hts gL_isNeedSo_X5_write rfl rfl rfl (by decide +kernel) ⟨Nat.le_of_ble_eq_true rfl, Nat.le_of_ble_eq_true rfl⟩) ⟨wSx.blind, (w_recv hK hM2.main 0 (by decide) rfl (ci := 5) rfl), fun U hU hW => wSx.go hM2 hK hI2 hxe hS (fun q h => Or.inr (hg2 q h)) hU hW⟩ rfl rfl hl.1 rfl (lv_room (Nat.le_of_ble_eq_true rfl)) dL_isNeedSo_275 ⟨(show cells + 1 + 1 + 2 ≤ 474 by omega), (show slots + 6 + 6 + 12 ≤ 3474 by omega)⟩) hS (fun q _ h => (fun q h => Or.inr (hg2 q h)) q h) (fun q h => Or.inr (hg2 q h)) (fun r_53 uu t H_53 locs_53 ht hvm hw hB hzq hk1 hS => ?_)
                                rw [ht] at hB
                                have hM2 := hB
                                have hM := hM.at hk1 hds1
                                obtain rfl : r_53 = (z2.2.1 b) := hw
                                refine lv_istore (lv' := [(14, .int ((z2.2.1 b))), (13, .int (nI b)), (10, .ref ((g2 0))), (8, .int (nI v)), (6, .int (nI 1)), (2, .int (nI k)), (1, .int (nI u)), (0, .ref ((g 0)))]) hx hb dL_isNeedSo_278 hl (by decide) rfl (fun ls hl => ?_)
                                refine lv_iinc (v := (nI (b + 1))) (lv' := [(13, .int (nI (b + 1))), (14, .int ((z2.2.1 b))), (10, .ref ((g2 0))), (8, .int (nI v)), (6, .int (nI 1)), (2, .int (nI k)), (1, .int (nI u)), (0, .ref ((g 0)))]) hx hb dL_isNeedSo_280 hl (k := 1) rfl (nI_1 _) (by decide) rfl (fun ls hl => ?_)
                                refine lv_goto (tgt := 255) hx hb dL_isNeedSo_283 (by decide) ?_
                                exact ih (b + 1) (writeZ z2 b (nI v9)) (kpK ke2) (pushH ke2 hs2 z2) _ _ ls _ _ (by omega) (othP_write ho9 hv9) (by omega) (by omega) hM hM2 hS (lv_sub hl [0, 2, 3, 4, 5, 6, 7] rfl)
                          exact L255 y.1 0 _ _ _ _ _ ls _ _ (by omega) (othP_new hn2 hn12) (by omega) (by omega) hM hM2 hS (lv_sub hl [0, 3, 5, 4, 6, 7, 8] rfl)
                        · have f_c_22 : ¬ v ≤ 40 := fun z9 => c_22 ((nI_leI (a := v) (b := 40) (by omega) (by omega)).mpr z9)
                          refine lv_iload hx hb dL_isNeedSo_219 (lv_at hl 0 rfl) ?_
                          refine W.widen (k := 474) (n := 3474) (show cells ≤ 474 by omega) (show slots ≤ 3474 by omega) ?_
                          exact W.zret (v := (nI 1)) hx hb hr rfl (fun t ht hW => ⟨⟨_, (kpK ke - 1, pushH ke hs z), rfl, rfl, (by show MB E g ln bf z _ _ t.heap; rw [ht]; exact hM)⟩, hS.F ht⟩) hS.2.2 dL_isNeedSo_221
                  refine lv_aload_n hx hb dL_isNeedSo_158 rfl (lv_at hl 7 rfl) ?_
                  refine lv_iload_n hx hb dL_isNeedSo_159 rfl (lv_at hl 8 rfl) ?_
                  refine lv_iconst (v := (nI 3)) hx hb dL_isNeedSo_160 (by decide) ?_
                  refine va_calli (va_runV (As := [.int (nI u), .int (nI 3)]) (rest := []) ⟨hx, hb, hml, hown, hts⟩ (n_rec3 l hst E g ln bf z (kpK ke - 1) (pushH ke hs z) hz hu) (cwV 2 hts gL_isNeedSo_X5_receiver rfl rfl rfl (by decide +kernel) ⟨Nat.le_of_ble_eq_true rfl, Nat.le_of_ble_eq_true rfl⟩) ⟨wSx.blind, (w_recv hK hM.main 0 (by decide) rfl (ci := 5) rfl), fun U hU hW => wSx.go hM hK hI hxe hS (fun q h => Or.inl h) hU hW⟩ rfl rfl hl.1 rfl (lv_room (Nat.le_of_ble_eq_true rfl)) dL_isNeedSo_161 ⟨Nat.le_of_ble_eq_true rfl, Nat.le_of_ble_eq_true rfl⟩) hS (fun q _ h => (fun q h => Or.inl h) q h) (fun q h => Or.inl h) (fun r_54 uu t H_54 locs_54 ht hvm hw hB hzq hk1 hS => ?_)
                  rw [ht] at hB
                  have hM := hB
                  obtain rfl : r_54 = nI ((y.2.2.2 u).2.2.2.2.2.length) := hw
                  refine lv_iconst (v := (nI 4)) hx hb dL_isNeedSo_164 (by decide) ?_
                  refine lv_icmp_gt (tgt := 199) hx hb dL_isNeedSo_165 (by decide) (fun c_55 => ?_) (fun c_55 => ?_)
                  · have f_c_55 : 4 < ((y.2.2.2 u).2.2.2.2.2.length) := (nI_ltI (a := 4) (b := ((y.2.2.2 u).2.2.2.2.2.length)) (by omega) (by omega)).mp c_55
                    exact J199  _ _ ls _ _ (Nat.le_of_ble_eq_true rfl) (Nat.le_of_ble_eq_true rfl) hM hS (lv_sub hl [1, 9, 8, 7] rfl)
                  · have f_c_55 : ¬ 4 < ((y.2.2.2 u).2.2.2.2.2.length) := fun z9 => c_55 ((nI_ltI (a := 4) (b := ((y.2.2.2 u).2.2.2.2.2.length)) (by omega) (by omega)).mpr z9)
                    refine lv_iload hx hb dL_isNeedSo_168 (lv_at hl 1 rfl) ?_
                    refine lv_if_lt (tgt := 199) hx hb dL_isNeedSo_170 (by decide) (fun c_56 => ?_) (fun c_56 => ?_)
                    · skip
                      exact J199  _ _ ls _ _ (Nat.le_of_ble_eq_true rfl) (Nat.le_of_ble_eq_true rfl) hM hS (lv_sub hl [1, 9, 8, 7] rfl)
                    · skip
                      refine lv_iload hx hb dL_isNeedSo_173 (lv_at hl 0 rfl) ?_
                      refine lv_if_lt (tgt := 199) hx hb dL_isNeedSo_175 (by decide) (fun c_57 => ?_) (fun c_57 => ?_)
                      · skip
                        exact J199  _ _ ls _ _ (Nat.le_of_ble_eq_true rfl) (Nat.le_of_ble_eq_true rfl) hM hS (lv_sub hl [1, 9, 8, 7] rfl)
                      · skip
                        refine lv_iload hx hb dL_isNeedSo_178 (lv_at hl 1 rfl) ?_
                        refine lv_bipush (v := (nI 20)) hx hb dL_isNeedSo_180 (by decide) ?_
                        refine lv_icmp_gt (tgt := 199) hx hb dL_isNeedSo_182 (by decide) (fun c_58 => ?_) (fun c_58 => ?_)
                        · skip
                          exact J199  _ _ ls _ _ (Nat.le_of_ble_eq_true rfl) (Nat.le_of_ble_eq_true rfl) hM hS (lv_sub hl [1, 9, 8, 7] rfl)
                        · skip
                          refine lv_iload hx hb dL_isNeedSo_185 (lv_at hl 0 rfl) ?_
                          refine lv_bipush (v := (nI 20)) hx hb dL_isNeedSo_187 (by decide) ?_
                          refine lv_icmp_gt (tgt := 199) hx hb dL_isNeedSo_189 (by decide) (fun c_59 => ?_) (fun c_59 => ?_)
                          · skip
                            exact J199  _ _ ls _ _ (Nat.le_of_ble_eq_true rfl) (Nat.le_of_ble_eq_true rfl) hM hS (lv_sub hl [1, 9, 8, 7] rfl)
                          · skip
                            refine lv_iload hx hb dL_isNeedSo_192 (lv_at hl 0 rfl) ?_
                            refine lv_iload hx hb dL_isNeedSo_194 (lv_at hl 1 rfl) ?_
                            refine lv_icmp_gt (tgt := 203) hx hb dL_isNeedSo_196 (by decide) (fun c_60 => ?_) (fun c_60 => ?_)
                            · exact absurd c_60 (need_ok (by omega) hn12 hMI (show (y.2.2.2 u).2.2.2.2.2.length ≤ 4 by omega) c_56 c_58)
                            · skip
                              exact J199  _ _ ls _ _ (Nat.le_of_ble_eq_true rfl) (Nat.le_of_ble_eq_true rfl) hM hS (lv_sub hl [1, 9, 8, 7] rfl)
