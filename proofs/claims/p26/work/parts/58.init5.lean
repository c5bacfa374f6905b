theorem mb_glue {E : wE} {a b q m1 m2 m5 m6 sz : Nat} {ge gt gs gh : Nat → Nat} {H : Heap} (hP : wP E 1 (fun _ => a) (fun _ => .inr (5, [.ref (gs 0), .ref (gh 0), .ref b, .int 0, .ref q, .ref (gt 0), .ref (ge 0)])) H) (hBf : wP E 1 (fun _ => b) (fun _ => .inl (E.2.1, 60, .inl (fun _ => 0))) H) (hPa : wP E 1 (fun _ => q) (paF (-1) 0 0) H) (hE : elP E ge ((fun _ => 0), 0) H) (hT : rcT E gt false rs0 H) (hN : stT E gs ss0 H) (hH : hiB E gh H)
    (Ie : wI 2 ge) (It : wI 3 gt) (Is : wI 12 gs) (Ih : wI 74 gh) (h1 : a < m1) (s1 : ∀ j, j < 12 → m1 ≤ gs j) (s2 : ∀ j, j < 12 → gs j < m2) (k1 : ∀ j, j < 74 → m2 ≤ gh j) (k2 : ∀ j, j < 74 → gh j < b) (hbq : b < q) (hq5 : q < m5) (t1 : ∀ j, j < 3 → m5 ≤ gt j) (t2 : ∀ j, j < 3 → gt j < m6) (e1 : ∀ j, j < 2 → m6 ≤ ge j) (hsz : sz ≤ m1) : wB a sz 94 (fun g => MB E g 0 (fun _ => 0) ss0 0 (fun _ => ss0) H) := by
  obtain ⟨J, hlo⟩ := gMB_I Ie It Is Ih h1 s1 s2 k1 k2 hbq hq5 t1 t2 e1
  have hH2 : hiB E (off (gMB a b q ge gt gs gh) 20) H := hiB_cg hH (fun k _ => gMB_h)
  refine ⟨gMB a b q ge gt gs gh, rfl, fun k h0 h9 => Nat.le_trans hsz (hlo k h0 h9), J, 0, fun _ => ss0, ⟨by decide, by decide, fun j hj => absurd hj (by omega), by decide, (by show 2 ≤ 8; decide), (by show 8 ≤ 12; decide)⟩, ?_, ⟨⟨(-1, 0, 0), ?_⟩, ⟨((fun _ => 0), 0), ?_⟩, ⟨false, rs0, ?_⟩⟩, ?_, hH2.1, hH2.2⟩
  · exact (wP2 (f := mbF E (gMB a b q ge gt gs gh) 0 (fun _ => 0)) hP hBf rfl rfl).cg (fun k hk => by
      rcases (show k = 0 ∨ k = 1 by omega) with rfl | rfl <;> rfl) (fun _ _ => rfl)
  · exact hPa.cg (fun k hk => by
      obtain rfl : k = 0 := by omega
      rfl) (fun _ _ => rfl)
  · exact elP_cg hE (fun k hk => gMB_e hk)
  · exact rcT_cg hT (fun k hk => gMB_t hk)
  · exact stT_cg hN (fun k hk => gMB_s hk)
set_option maxHeartbeats 4000000 in
set_option maxRecDepth 100000 in
theorem c_X5_init (l : Launch) (E : wE) (a sz : Nat) : Met l yX5_init wsX5_init ({ frames := 4, cells := 93, slots := 1187, locals := 120 }) (va_Pc [.ref a] (wCq E 5 [.null, .null, .null, .int 0, .null, .null, .null] a sz)) (va_Qv (fun (_ : Unit) => True) (fun _ t => wB a sz 94 (fun g => MB E g 0 (fun _ => 0) ss0 0 (fun _ => ss0) t.heap)) (cAt a sz)) 93 1187 (cAt a sz) := by
  refine Met.ofW (cc := cX5_init) (maxL := 1) (ret := none) (by decide) rfl ?_
  intro p e s m args below meth c s₁ B hml hv
  obtain ⟨rfl, hsz, hP, hK, hRX3, hRX4⟩ := hv
  have hx := B.exec
  have hb := B.bytes
  have hr := B.returns
  have hts := atoms_spec (ws := wsX5_init) B.pre
  have hown : s.vm.findClass RX5 = some m.cls := findClass_of_methodNamed B.named
  have hlocks := B.notSynchronized
  have hnm : meth.name = "<init>" := (name_of_methodNamed B.named B.method).1
  subst hsz
  have hA : ∀ q, s.heap.size ≤ q → cAt a s.heap.size q := fun q h => Or.inr h
  have hAa : cAt a s.heap.size a := Or.inl rfl
  have hS : va_S (cAt a s.heap.size) s.heap s.heap [] := va_S.rf
  have hz0 : s.heap.size ≤ s.heap.size := Nat.le_refl _
  have hin5 : ∀ w ∈ wsX50, w ∈ wsX5_init := by decide +kernel
  have hl := lv_entry ([.ref a]) (n := 1) (Nat.le_of_ble_eq_true rfl)
  rw [lg_entry_eq]
  generalize (lg_sl ([.ref a]) ++ List.replicate (1 - (lg_sl ([.ref a])).length) Slot.unset).toArray = ls at hl ⊢
  have hl : lv_has ls 1 [(0, .ref a)] := hl
  have hin4 : ∀ w ∈ wsX40, w ∈ wsX5_init := by decide +kernel
  have hin1 : ∀ w ∈ wsX10, w ∈ wsX5_init := by decide +kernel
  have hin2 : ∀ w ∈ wsX20, w ∈ wsX5_init := by decide +kernel
  have hin3 : ∀ w ∈ wsX30, w ∈ wsX5_init := by decide +kernel
  have hin0 : ∀ w ∈ wsX00, w ∈ wsX5_init := by decide +kernel
  refine lv_aload_n hx hb dX5_init_0 rfl (lv_at hl 0 rfl) ?_
  refine W.objInit hx hb hown (hts (.methodLink RX5 3 objectInit) (List.mem_of_getElem? (i := 1) rfl)) (hts (.instanceMethod objectInit) (List.mem_of_getElem? (i := 2) rfl)) (hts (.code objectInit ⟨#[0xb1]⟩ 1 none) (List.mem_of_getElem? (i := 3) rfl)) rfl (by rw [hml]; exact hl.1) rfl dX5_init_1 (Nat.le_of_ble_eq_true rfl) (Nat.le_of_ble_eq_true rfl) ?_
  refine W.eq (g2 := F0 m 4 ls []) rfl ?_
  refine lv_aload_n hx hb dX5_init_4 rfl (lv_at hl 0 rfl) ?_
  obtain ⟨x_1, hx_1⟩ : ∃ x : Nat, x = s.heap.size := ⟨_, rfl⟩
  have hl_hP_1 : ∀ j, j < 1 → (fun _ => a) j < x_1 := by rw [hx_1]; exact (fun j hj => hP.lt hj)
  have hsz_1 : s.heap.size ≤ x_1 := by rw [hx_1]; exact hS.1
  refine w_newo (C := RX4) (T := TX4) (N := 4) (ci := 4) (fs := [.int 0, .null, .int 0, .null]) hx hb hts hin4 tyX4 tyX4_ok hown (hts (.classLink RX5 9 RX4) (List.mem_of_getElem? (i := 4) rfl)) (hts (.instantiable RX4 4) (List.mem_of_getElem? (i := 5) rfl)) (hts (.initialized RX4) (List.mem_of_getElem? (i := 6) rfl)) hK hS rfl (by decide +kernel) (Nat.le_of_ble_eq_true rfl) (Nat.le_of_ble_eq_true rfl) dX5_init_5 (fun H_4 hB_1 hz_1 ho_1 hS => ?_)
  rw [← hx_1] at hB_1 hz_1
  rw [show Value.ref s.heap.size = Value.ref x_1 from by rw [hx_1]]
  have hP := hP.keep (fun j hj => ho_1 _ (by rw [← hx_1]; exact hl_hP_1 j hj))
  have hlo_hB_1 : ∀ j, j < 1 → x_1 ≤ (fun _ => x_1) j := fun _ _ => Nat.le_refl _
  refine lv_dup hx hb dX5_init_8 rfl ?_
  have hy_hP_1 : ∀ j, j < 1 → ¬ cAt x_1 H_4.size ((fun _ => a) j) := fun j hj h7 => by have h8 := hl_hP_1 j hj; rcases h7 with h7 | h7 <;> omega
  have hFc : ∀ q, cAt x_1 H_4.size q → cAt a s.heap.size q := fun q h7 => Or.inr (by rcases h7 with h7 | h7 <;> omega)
  refine va_callv (va_runI (As := []) (rest := [.ref x_1, .ref a]) ⟨hx, hb, hml, hown, hts⟩ (c_X4_init l E x_1 H_4.size) (cwI 0 hts gX5_init_X4_init rfl rfl rfl (hts (.initialized RX4) (List.mem_of_getElem? (i := 6) rfl)) (hts (.methodLink RX5 11 yX4_init) (List.mem_of_getElem? (i := 27) rfl)) (hts (.instanceMethod yX4_init) (List.mem_of_getElem? (i := 28) rfl)) rfl (by decide +kernel) ⟨Nat.le_of_ble_eq_true rfl, Nat.le_of_ble_eq_true rfl⟩) ⟨wCq.blind, fun U hU hW => wCq.go hB_1 hK hRX3 hRX4 hU hW⟩ rfl rfl hl.1 rfl (lv_room (Nat.le_of_ble_eq_true rfl)) dX5_init_9 ⟨Nat.le_of_ble_eq_true rfl, Nat.le_of_ble_eq_true rfl⟩) hS (fun q _ h => hFc q h) hFc (fun u t H_6 locs ht hvm hw hB hz1 hk1 hS => ?_)
  rw [ht] at hB
  have hP := hP.keep (fun j hj => hk1 _ (Nat.lt_of_lt_of_le (hl_hP_1 j hj) (by omega)) (hy_hP_1 j hj))
  obtain ⟨g_1, hg0_1, hge_1, hgI_1, hR_1⟩ := hB
  have hlo_hR_1 : ∀ j, j < 12 → x_1 ≤ g_1 j := fun j hj => (Nat.eq_zero_or_pos j).elim (fun h7 => by rw [h7, hg0_1]; exact Nat.le_refl _) (fun h7 => by have h8 := hge_1 j h7 hj; omega)
  refine w_putF1 (C := RX5) (T := TX5) (N := 7) (ci := 5) (v := .ref x_1) (ty := (.object "MixedBlocks$State")) hx hb hts hin5 tyX5 tyX5_ok nmX5 hown hK hP hAa hS rfl 0 (by decide) (hts (.fieldLink RX5 12 "MixedBlocks" "now" "LMixedBlocks$State;") (List.mem_of_getElem? (i := 7) rfl)) (fun _ h9 => h9) rfl hnm rfl (by decide +kernel) rfl rfl (Nat.le_of_ble_eq_true rfl) dX5_init_12 (fun H_7 locs hP hz_p7 hO_p7 hS => ?_)
  have hR_1 := hR_1.keep (fun j hj => hO_p7 _ (by have h8 := hlo_hR_1 j hj; have h9 := hl_hP_1 0 (by decide); exact Nat.ne_of_gt (Nat.lt_of_lt_of_le h9 h8)))
  refine lv_aload_n hx hb dX5_init_15 rfl (lv_at hl 0 rfl) ?_
  obtain ⟨x_2, hx_2⟩ : ∃ x : Nat, x = H_7.size := ⟨_, rfl⟩
  have hl_hP_2 : ∀ j, j < 1 → (fun _ => a) j < x_2 := by rw [hx_2]; exact (fun j hj => hP.lt hj)
  have hl_hR_1_2 : ∀ j, j < 12 → g_1 j < x_2 := by rw [hx_2]; exact (stT_lt hR_1)
  have hsz_2 : s.heap.size ≤ x_2 := by rw [hx_2]; exact hS.1
  refine w_newo (C := RX1) (T := TX1) (N := 3) (ci := 1) (fs := [.null, .int 0, .int 0]) hx hb hts hin1 tyX1 tyX1_ok hown (hts (.classLink RX5 16 RX1) (List.mem_of_getElem? (i := 8) rfl)) (hts (.instantiable RX1 3) (List.mem_of_getElem? (i := 9) rfl)) (hts (.initialized RX1) (List.mem_of_getElem? (i := 10) rfl)) hK hS rfl (by decide +kernel) (Nat.le_of_ble_eq_true rfl) (Nat.le_of_ble_eq_true rfl) dX5_init_16 (fun H_9 hB_2 hz_2 ho_2 hS => ?_)
  rw [← hx_2] at hB_2 hz_2
  rw [show Value.ref H_7.size = Value.ref x_2 from by rw [hx_2]]
  have hP := hP.keep (fun j hj => ho_2 _ (by rw [← hx_2]; exact hl_hP_2 j hj))
  have hR_1 := hR_1.keep (fun j hj => ho_2 _ (by rw [← hx_2]; exact hl_hR_1_2 j hj))
  have hlo_hB_2 : ∀ j, j < 1 → x_2 ≤ (fun _ => x_2) j := fun _ _ => Nat.le_refl _
  refine lv_dup hx hb dX5_init_19 rfl ?_
  have hy_hP_2 : ∀ j, j < 1 → ¬ cAt x_2 H_9.size ((fun _ => a) j) := fun j hj h7 => by have h8 := hl_hP_2 j hj; rcases h7 with h7 | h7 <;> omega
  have hy_hR_1_2 : ∀ j, j < 12 → ¬ cAt x_2 H_9.size (g_1 j) := fun j hj h7 => by have h8 := hl_hR_1_2 j hj; rcases h7 with h7 | h7 <;> omega
  have hFc : ∀ q, cAt x_2 H_9.size q → cAt a s.heap.size q := fun q h7 => Or.inr (by rcases h7 with h7 | h7 <;> omega)
  refine va_callv (va_runI (As := []) (rest := [.ref x_2, .ref a]) ⟨hx, hb, hml, hown, hts⟩ (c_X1_init l E x_2 H_9.size) (cwI 0 hts gX5_init_X1_init rfl rfl rfl (hts (.initialized RX1) (List.mem_of_getElem? (i := 10) rfl)) (hts (.methodLink RX5 18 yX1_init) (List.mem_of_getElem? (i := 42) rfl)) (hts (.instanceMethod yX1_init) (List.mem_of_getElem? (i := 43) rfl)) rfl (by decide +kernel) ⟨Nat.le_of_ble_eq_true rfl, Nat.le_of_ble_eq_true rfl⟩) ⟨wCq.blind, fun U hU hW => wCq.go hB_2 hK hRX3 hRX4 hU hW⟩ rfl rfl hl.1 rfl (lv_room (Nat.le_of_ble_eq_true rfl)) dX5_init_20 ⟨Nat.le_of_ble_eq_true rfl, Nat.le_of_ble_eq_true rfl⟩) hS (fun q _ h => hFc q h) hFc (fun u t H_11 locs ht hvm hw hB hz1 hk1 hS => ?_)
  rw [ht] at hB
  have hP := hP.keep (fun j hj => hk1 _ (Nat.lt_of_lt_of_le (hl_hP_2 j hj) (by omega)) (hy_hP_2 j hj))
  have hR_1 := hR_1.keep (fun j hj => hk1 _ (Nat.lt_of_lt_of_le (hl_hR_1_2 j hj) (by omega)) (hy_hR_1_2 j hj))
  obtain ⟨g_2, hg0_2, hge_2, hgI_2, hR_2⟩ := hB
  have hR_2 : hiB E g_2 _ := hR_2
  have hlo_hR_2 : ∀ j, j < 74 → x_2 ≤ g_2 j := fun j hj => (Nat.eq_zero_or_pos j).elim (fun h7 => by rw [h7, hg0_2]; exact Nat.le_refl _) (fun h7 => by have h8 := hge_2 j h7 hj; omega)
  refine w_putF1 (C := RX5) (T := TX5) (N := 7) (ci := 5) (v := .ref x_2) (ty := (.object "MixedBlocks$History")) hx hb hts hin5 tyX5 tyX5_ok nmX5 hown hK hP hAa hS rfl 1 (by decide) (hts (.fieldLink RX5 19 "MixedBlocks" "history" "LMixedBlocks$History;") (List.mem_of_getElem? (i := 11) rfl)) (fun _ h9 => h9) rfl hnm rfl (by decide +kernel) rfl rfl (Nat.le_of_ble_eq_true rfl) dX5_init_23 (fun H_12 locs hP hz_p12 hO_p12 hS => ?_)
  have hR_1 := hR_1.keep (fun j hj => hO_p12 _ (by have h8 := hlo_hR_1 j hj; have h9 := hl_hP_1 0 (by decide); exact Nat.ne_of_gt (Nat.lt_of_lt_of_le h9 h8)))
  have hR_2 := hR_2.keep (fun j hj => hO_p12 _ (by have h8 := hlo_hR_2 j hj; have h9 := hl_hP_2 0 (by decide); exact Nat.ne_of_gt (Nat.lt_of_lt_of_le h9 h8)))
  refine lv_aload_n hx hb dX5_init_26 rfl (lv_at hl 0 rfl) ?_
  refine lv_bipush (v := 60) hx hb dX5_init_27 (by decide) ?_
  obtain ⟨x_3, hx_3⟩ : ∃ x : Nat, x = H_12.size := ⟨_, rfl⟩
  have hl_hP_3 : ∀ j, j < 1 → (fun _ => a) j < x_3 := by rw [hx_3]; exact (fun j hj => hP.lt hj)
  have hl_hR_1_3 : ∀ j, j < 12 → g_1 j < x_3 := by rw [hx_3]; exact (stT_lt hR_1)
  have hl_hR_2_3 : ∀ j, j < 74 → g_2 j < x_3 := by rw [hx_3]; exact (hi_lt hR_2)
  have hsz_3 : s.heap.size ≤ x_3 := by rw [hx_3]; exact hS.1
  refine w_newi hx hb (hts (.arrayClass .int) (List.mem_of_getElem? (i := 12) rfl)) hK hS 60 (by decide) (by decide) (by decide) (Nat.le_of_ble_eq_true rfl) (Nat.le_of_ble_eq_true rfl) dX5_init_29 (fun H_15 hB_3 hz_3 ho_3 hS => ?_)
  rw [← hx_3] at hB_3 hz_3
  rw [show Value.ref H_12.size = Value.ref x_3 from by rw [hx_3]]
  have hP := hP.keep (fun j hj => ho_3 _ (by rw [← hx_3]; exact hl_hP_3 j hj))
  have hR_1 := hR_1.keep (fun j hj => ho_3 _ (by rw [← hx_3]; exact hl_hR_1_3 j hj))
  have hR_2 := hR_2.keep (fun j hj => ho_3 _ (by rw [← hx_3]; exact hl_hR_2_3 j hj))
  have hlo_hB_3 : ∀ j, j < 1 → x_3 ≤ (fun _ => x_3) j := fun _ _ => Nat.le_refl _
  refine w_putF1 (C := RX5) (T := TX5) (N := 7) (ci := 5) (v := .ref x_3) (ty := (.array .int)) hx hb hts hin5 tyX5 tyX5_ok nmX5 hown hK hP hAa hS rfl 2 (by decide) (hts (.fieldLink RX5 23 "MixedBlocks" "buffer" "[I") (List.mem_of_getElem? (i := 13) rfl)) (fun _ h9 => h9) rfl hnm rfl (by decide +kernel) rfl rfl (Nat.le_of_ble_eq_true rfl) dX5_init_31 (fun H_16 locs hP hz_p16 hO_p16 hS => ?_)
  have hR_1 := hR_1.keep (fun j hj => hO_p16 _ (by have h8 := hlo_hR_1 j hj; have h9 := hl_hP_1 0 (by decide); exact Nat.ne_of_gt (Nat.lt_of_lt_of_le h9 h8)))
  have hR_2 := hR_2.keep (fun j hj => hO_p16 _ (by have h8 := hlo_hR_2 j hj; have h9 := hl_hP_2 0 (by decide); exact Nat.ne_of_gt (Nat.lt_of_lt_of_le h9 h8)))
  have hB_3 := hB_3.keep (fun j hj => hO_p16 _ (by have h8 := hlo_hB_3 j hj; have h9 := hl_hP_3 0 (by decide); exact Nat.ne_of_gt (Nat.lt_of_lt_of_le h9 h8)))
  refine lv_aload_n hx hb dX5_init_34 rfl (lv_at hl 0 rfl) ?_
  refine lv_iconst (v := 0) hx hb dX5_init_35 (by decide) ?_
  refine w_put1 (C := RX5) (T := TX5) (N := 7) (ci := 5) (v := .int 0) (ty := .int) hx hb hts hin5 tyX5 tyX5_ok nmX5 hown hK hP hAa hS rfl 3 (by decide) (hts (.fieldLink RX5 27 "MixedBlocks" "length" "I") (List.mem_of_getElem? (i := 14) rfl)) (fun _ h9 => h9) rfl (by decide +kernel) rfl rfl (Nat.le_of_ble_eq_true rfl) dX5_init_36 (fun H_19 locs hP hz_p19 hO_p19 hS => ?_)
  have hR_1 := hR_1.keep (fun j hj => hO_p19 _ (by have h8 := hlo_hR_1 j hj; have h9 := hl_hP_1 0 (by decide); exact Nat.ne_of_gt (Nat.lt_of_lt_of_le h9 h8)))
  have hR_2 := hR_2.keep (fun j hj => hO_p19 _ (by have h8 := hlo_hR_2 j hj; have h9 := hl_hP_2 0 (by decide); exact Nat.ne_of_gt (Nat.lt_of_lt_of_le h9 h8)))
  have hB_3 := hB_3.keep (fun j hj => hO_p19 _ (by have h8 := hlo_hB_3 j hj; have h9 := hl_hP_3 0 (by decide); exact Nat.ne_of_gt (Nat.lt_of_lt_of_le h9 h8)))
  refine lv_aload_n hx hb dX5_init_39 rfl (lv_at hl 0 rfl) ?_
  obtain ⟨x_4, hx_4⟩ : ∃ x : Nat, x = H_19.size := ⟨_, rfl⟩
  have hl_hP_4 : ∀ j, j < 1 → (fun _ => a) j < x_4 := by rw [hx_4]; exact (fun j hj => hP.lt hj)
  have hl_hR_1_4 : ∀ j, j < 12 → g_1 j < x_4 := by rw [hx_4]; exact (stT_lt hR_1)
  have hl_hR_2_4 : ∀ j, j < 74 → g_2 j < x_4 := by rw [hx_4]; exact (hi_lt hR_2)
  have hl_hB_3_4 : ∀ j, j < 1 → (fun _ => x_3) j < x_4 := by rw [hx_4]; exact (fun j hj => hB_3.lt hj)
  have hsz_4 : s.heap.size ≤ x_4 := by rw [hx_4]; exact hS.1
  refine w_newo (C := RX2) (T := TX2) (N := 3) (ci := 2) (fs := [.int 0, .int 0, .int 0]) hx hb hts hin2 tyX2 tyX2_ok hown (hts (.classLink RX5 31 RX2) (List.mem_of_getElem? (i := 15) rfl)) (hts (.instantiable RX2 3) (List.mem_of_getElem? (i := 16) rfl)) (hts (.initialized RX2) (List.mem_of_getElem? (i := 17) rfl)) hK hS rfl (by decide +kernel) (Nat.le_of_ble_eq_true rfl) (Nat.le_of_ble_eq_true rfl) dX5_init_40 (fun H_21 hB_4 hz_4 ho_4 hS => ?_)
  rw [← hx_4] at hB_4 hz_4
  rw [show Value.ref H_19.size = Value.ref x_4 from by rw [hx_4]]
  have hP := hP.keep (fun j hj => ho_4 _ (by rw [← hx_4]; exact hl_hP_4 j hj))
  have hR_1 := hR_1.keep (fun j hj => ho_4 _ (by rw [← hx_4]; exact hl_hR_1_4 j hj))
  have hR_2 := hR_2.keep (fun j hj => ho_4 _ (by rw [← hx_4]; exact hl_hR_2_4 j hj))
  have hB_3 := hB_3.keep (fun j hj => ho_4 _ (by rw [← hx_4]; exact hl_hB_3_4 j hj))
  have hlo_hB_4 : ∀ j, j < 1 → x_4 ≤ (fun _ => x_4) j := fun _ _ => Nat.le_refl _
  refine lv_dup hx hb dX5_init_43 rfl ?_
  have hy_hP_4 : ∀ j, j < 1 → ¬ cAt x_4 H_21.size ((fun _ => a) j) := fun j hj h7 => by have h8 := hl_hP_4 j hj; rcases h7 with h7 | h7 <;> omega
  have hy_hR_1_4 : ∀ j, j < 12 → ¬ cAt x_4 H_21.size (g_1 j) := fun j hj h7 => by have h8 := hl_hR_1_4 j hj; rcases h7 with h7 | h7 <;> omega
  have hy_hR_2_4 : ∀ j, j < 74 → ¬ cAt x_4 H_21.size (g_2 j) := fun j hj h7 => by have h8 := hl_hR_2_4 j hj; rcases h7 with h7 | h7 <;> omega
  have hy_hB_3_4 : ∀ j, j < 1 → ¬ cAt x_4 H_21.size ((fun _ => x_3) j) := fun j hj h7 => by have h8 := hl_hB_3_4 j hj; rcases h7 with h7 | h7 <;> omega
  have hFc : ∀ q, cAt x_4 H_21.size q → cAt a s.heap.size q := fun q h7 => Or.inr (by rcases h7 with h7 | h7 <;> omega)
  refine va_callv (va_runI (As := []) (rest := [.ref x_4, .ref a]) ⟨hx, hb, hml, hown, hts⟩ (c_X2_init l E x_4 H_21.size) (cwI 0 hts gX5_init_X2_init rfl rfl rfl (hts (.initialized RX2) (List.mem_of_getElem? (i := 17) rfl)) (hts (.methodLink RX5 33 yX2_init) (List.mem_of_getElem? (i := 51) rfl)) (hts (.instanceMethod yX2_init) (List.mem_of_getElem? (i := 52) rfl)) rfl (by decide +kernel) ⟨Nat.le_of_ble_eq_true rfl, Nat.le_of_ble_eq_true rfl⟩) ⟨wC.blind, fun U hU hW => wC.go hB_4 hK hU hW⟩ rfl rfl hl.1 rfl (lv_room (Nat.le_of_ble_eq_true rfl)) dX5_init_44 ⟨Nat.le_of_ble_eq_true rfl, Nat.le_of_ble_eq_true rfl⟩) hS (fun q _ h => hFc q h) hFc (fun u t H_23 locs ht hvm hw hB hz1 hk1 hS => ?_)
  rw [ht] at hB
  have hP := hP.keep (fun j hj => hk1 _ (Nat.lt_of_lt_of_le (hl_hP_4 j hj) (by omega)) (hy_hP_4 j hj))
  have hR_1 := hR_1.keep (fun j hj => hk1 _ (Nat.lt_of_lt_of_le (hl_hR_1_4 j hj) (by omega)) (hy_hR_1_4 j hj))
  have hR_2 := hR_2.keep (fun j hj => hk1 _ (Nat.lt_of_lt_of_le (hl_hR_2_4 j hj) (by omega)) (hy_hR_2_4 j hj))
  have hB_3 := hB_3.keep (fun j hj => hk1 _ (Nat.lt_of_lt_of_le (hl_hB_3_4 j hj) (by omega)) (hy_hB_3_4 j hj))
  have hR_4 := hB
  have hlo_hR_4 : ∀ j, j < 1 → x_4 ≤ (fun _ => x_4) j := fun _ _ => Nat.le_refl _
  refine w_putF1 (C := RX5) (T := TX5) (N := 7) (ci := 5) (v := .ref x_4) (ty := (.object "MixedBlocks$Part")) hx hb hts hin5 tyX5 tyX5_ok nmX5 hown hK hP hAa hS rfl 4 (by decide) (hts (.fieldLink RX5 34 "MixedBlocks" "part" "LMixedBlocks$Part;") (List.mem_of_getElem? (i := 18) rfl)) (fun _ h9 => h9) rfl hnm rfl (by decide +kernel) rfl rfl (Nat.le_of_ble_eq_true rfl) dX5_init_47 (fun H_24 locs hP hz_p24 hO_p24 hS => ?_)
  have hR_1 := hR_1.keep (fun j hj => hO_p24 _ (by have h8 := hlo_hR_1 j hj; have h9 := hl_hP_1 0 (by decide); exact Nat.ne_of_gt (Nat.lt_of_lt_of_le h9 h8)))
  have hR_2 := hR_2.keep (fun j hj => hO_p24 _ (by have h8 := hlo_hR_2 j hj; have h9 := hl_hP_2 0 (by decide); exact Nat.ne_of_gt (Nat.lt_of_lt_of_le h9 h8)))
  have hB_3 := hB_3.keep (fun j hj => hO_p24 _ (by have h8 := hlo_hB_3 j hj; have h9 := hl_hP_3 0 (by decide); exact Nat.ne_of_gt (Nat.lt_of_lt_of_le h9 h8)))
  have hR_4 := hR_4.keep (fun j hj => hO_p24 _ (by have h8 := hlo_hR_4 j hj; have h9 := hl_hP_4 0 (by decide); exact Nat.ne_of_gt (Nat.lt_of_lt_of_le h9 h8)))
  refine lv_aload_n hx hb dX5_init_50 rfl (lv_at hl 0 rfl) ?_
  obtain ⟨x_5, hx_5⟩ : ∃ x : Nat, x = H_24.size := ⟨_, rfl⟩
  have hl_hP_5 : ∀ j, j < 1 → (fun _ => a) j < x_5 := by rw [hx_5]; exact (fun j hj => hP.lt hj)
  have hl_hR_1_5 : ∀ j, j < 12 → g_1 j < x_5 := by rw [hx_5]; exact (stT_lt hR_1)
  have hl_hR_2_5 : ∀ j, j < 74 → g_2 j < x_5 := by rw [hx_5]; exact (hi_lt hR_2)
  have hl_hB_3_5 : ∀ j, j < 1 → (fun _ => x_3) j < x_5 := by rw [hx_5]; exact (fun j hj => hB_3.lt hj)
  have hl_hR_4_5 : ∀ j, j < 1 → (fun _ => x_4) j < x_5 := by rw [hx_5]; exact (fun j hj => hR_4.lt hj)
  have hsz_5 : s.heap.size ≤ x_5 := by rw [hx_5]; exact hS.1
  refine w_newo (C := RX3) (T := TX3) (N := 8) (ci := 3) (fs := [.int 0, .int 0, .null, .null, .int 0, .int 0, .int 0, .int 0]) hx hb hts hin3 tyX3 tyX3_ok hown (hts (.classLink RX5 38 RX3) (List.mem_of_getElem? (i := 19) rfl)) (hts (.instantiable RX3 8) (List.mem_of_getElem? (i := 20) rfl)) (hts (.initialized RX3) (List.mem_of_getElem? (i := 21) rfl)) hK hS rfl (by decide +kernel) (Nat.le_of_ble_eq_true rfl) (Nat.le_of_ble_eq_true rfl) dX5_init_51 (fun H_26 hB_5 hz_5 ho_5 hS => ?_)
  rw [← hx_5] at hB_5 hz_5
  rw [show Value.ref H_24.size = Value.ref x_5 from by rw [hx_5]]
  have hP := hP.keep (fun j hj => ho_5 _ (by rw [← hx_5]; exact hl_hP_5 j hj))
  have hR_1 := hR_1.keep (fun j hj => ho_5 _ (by rw [← hx_5]; exact hl_hR_1_5 j hj))
  have hR_2 := hR_2.keep (fun j hj => ho_5 _ (by rw [← hx_5]; exact hl_hR_2_5 j hj))
  have hB_3 := hB_3.keep (fun j hj => ho_5 _ (by rw [← hx_5]; exact hl_hB_3_5 j hj))
  have hR_4 := hR_4.keep (fun j hj => ho_5 _ (by rw [← hx_5]; exact hl_hR_4_5 j hj))
  have hlo_hB_5 : ∀ j, j < 1 → x_5 ≤ (fun _ => x_5) j := fun _ _ => Nat.le_refl _
  refine lv_dup hx hb dX5_init_54 rfl ?_
  have hy_hP_5 : ∀ j, j < 1 → ¬ cAt x_5 H_26.size ((fun _ => a) j) := fun j hj h7 => by have h8 := hl_hP_5 j hj; rcases h7 with h7 | h7 <;> omega
  have hy_hR_1_5 : ∀ j, j < 12 → ¬ cAt x_5 H_26.size (g_1 j) := fun j hj h7 => by have h8 := hl_hR_1_5 j hj; rcases h7 with h7 | h7 <;> omega
  have hy_hR_2_5 : ∀ j, j < 74 → ¬ cAt x_5 H_26.size (g_2 j) := fun j hj h7 => by have h8 := hl_hR_2_5 j hj; rcases h7 with h7 | h7 <;> omega
  have hy_hB_3_5 : ∀ j, j < 1 → ¬ cAt x_5 H_26.size ((fun _ => x_3) j) := fun j hj h7 => by have h8 := hl_hB_3_5 j hj; rcases h7 with h7 | h7 <;> omega
  have hy_hR_4_5 : ∀ j, j < 1 → ¬ cAt x_5 H_26.size ((fun _ => x_4) j) := fun j hj h7 => by have h8 := hl_hR_4_5 j hj; rcases h7 with h7 | h7 <;> omega
  have hFc : ∀ q, cAt x_5 H_26.size q → cAt a s.heap.size q := fun q h7 => Or.inr (by rcases h7 with h7 | h7 <;> omega)
  refine va_callv (va_runI (As := []) (rest := [.ref x_5, .ref a]) ⟨hx, hb, hml, hown, hts⟩ (c_X3_init l E x_5 H_26.size) (cwI 0 hts gX5_init_X3_init rfl rfl rfl (hts (.initialized RX3) (List.mem_of_getElem? (i := 21) rfl)) (hts (.methodLink RX5 40 yX3_init) (List.mem_of_getElem? (i := 58) rfl)) (hts (.instanceMethod yX3_init) (List.mem_of_getElem? (i := 37) rfl)) rfl (by decide +kernel) ⟨Nat.le_of_ble_eq_true rfl, Nat.le_of_ble_eq_true rfl⟩) ⟨wC.blind, fun U hU hW => wC.go hB_5 hK hU hW⟩ rfl rfl hl.1 rfl (lv_room (Nat.le_of_ble_eq_true rfl)) dX5_init_55 ⟨Nat.le_of_ble_eq_true rfl, Nat.le_of_ble_eq_true rfl⟩) hS (fun q _ h => hFc q h) hFc (fun u t H_28 locs ht hvm hw hB hz1 hk1 hS => ?_)
  rw [ht] at hB
  have hP := hP.keep (fun j hj => hk1 _ (Nat.lt_of_lt_of_le (hl_hP_5 j hj) (by omega)) (hy_hP_5 j hj))
  have hR_1 := hR_1.keep (fun j hj => hk1 _ (Nat.lt_of_lt_of_le (hl_hR_1_5 j hj) (by omega)) (hy_hR_1_5 j hj))
  have hR_2 := hR_2.keep (fun j hj => hk1 _ (Nat.lt_of_lt_of_le (hl_hR_2_5 j hj) (by omega)) (hy_hR_2_5 j hj))
  have hB_3 := hB_3.keep (fun j hj => hk1 _ (Nat.lt_of_lt_of_le (hl_hB_3_5 j hj) (by omega)) (hy_hB_3_5 j hj))
  have hR_4 := hR_4.keep (fun j hj => hk1 _ (Nat.lt_of_lt_of_le (hl_hR_4_5 j hj) (by omega)) (hy_hR_4_5 j hj))
  obtain ⟨g_5, hg0_5, hge_5, hgI_5, hR_5⟩ := hB
  have hlo_hR_5 : ∀ j, j < 3 → x_5 ≤ g_5 j := fun j hj => (Nat.eq_zero_or_pos j).elim (fun h7 => by rw [h7, hg0_5]; exact Nat.le_refl _) (fun h7 => by have h8 := hge_5 j h7 hj; omega)
  refine w_putF1 (C := RX5) (T := TX5) (N := 7) (ci := 5) (v := .ref x_5) (ty := (.object "MixedBlocks$Receiver")) hx hb hts hin5 tyX5 tyX5_ok nmX5 hown hK hP hAa hS rfl 5 (by decide) (hts (.fieldLink RX5 41 "MixedBlocks" "trial" "LMixedBlocks$Receiver;") (List.mem_of_getElem? (i := 22) rfl)) (fun _ h9 => h9) rfl hnm rfl (by decide +kernel) rfl rfl (Nat.le_of_ble_eq_true rfl) dX5_init_58 (fun H_29 locs hP hz_p29 hO_p29 hS => ?_)
  have hR_1 := hR_1.keep (fun j hj => hO_p29 _ (by have h8 := hlo_hR_1 j hj; have h9 := hl_hP_1 0 (by decide); exact Nat.ne_of_gt (Nat.lt_of_lt_of_le h9 h8)))
  have hR_2 := hR_2.keep (fun j hj => hO_p29 _ (by have h8 := hlo_hR_2 j hj; have h9 := hl_hP_2 0 (by decide); exact Nat.ne_of_gt (Nat.lt_of_lt_of_le h9 h8)))
  have hB_3 := hB_3.keep (fun j hj => hO_p29 _ (by have h8 := hlo_hB_3 j hj; have h9 := hl_hP_3 0 (by decide); exact Nat.ne_of_gt (Nat.lt_of_lt_of_le h9 h8)))
  have hR_4 := hR_4.keep (fun j hj => hO_p29 _ (by have h8 := hlo_hR_4 j hj; have h9 := hl_hP_4 0 (by decide); exact Nat.ne_of_gt (Nat.lt_of_lt_of_le h9 h8)))
  have hR_5 := hR_5.keep (fun j hj => hO_p29 _ (by have h8 := hlo_hR_5 j hj; have h9 := hl_hP_5 0 (by decide); exact Nat.ne_of_gt (Nat.lt_of_lt_of_le h9 h8)))
  refine lv_aload_n hx hb dX5_init_61 rfl (lv_at hl 0 rfl) ?_
  obtain ⟨x_6, hx_6⟩ : ∃ x : Nat, x = H_29.size := ⟨_, rfl⟩
  have hl_hP_6 : ∀ j, j < 1 → (fun _ => a) j < x_6 := by rw [hx_6]; exact (fun j hj => hP.lt hj)
  have hl_hR_1_6 : ∀ j, j < 12 → g_1 j < x_6 := by rw [hx_6]; exact (stT_lt hR_1)
  have hl_hR_2_6 : ∀ j, j < 74 → g_2 j < x_6 := by rw [hx_6]; exact (hi_lt hR_2)
  have hl_hB_3_6 : ∀ j, j < 1 → (fun _ => x_3) j < x_6 := by rw [hx_6]; exact (fun j hj => hB_3.lt hj)
  have hl_hR_4_6 : ∀ j, j < 1 → (fun _ => x_4) j < x_6 := by rw [hx_6]; exact (fun j hj => hR_4.lt hj)
  have hl_hR_5_6 : ∀ j, j < 3 → g_5 j < x_6 := by rw [hx_6]; exact (rcT_lt hR_5)
  have hsz_6 : s.heap.size ≤ x_6 := by rw [hx_6]; exact hS.1
  refine w_newo (C := RX0) (T := TX0) (N := 2) (ci := 0) (fs := [.null, .int 0]) hx hb hts hin0 tyX0 tyX0_ok hown (hts (.classLink RX5 45 RX0) (List.mem_of_getElem? (i := 23) rfl)) (hts (.instantiable RX0 2) (List.mem_of_getElem? (i := 24) rfl)) (hts (.initialized RX0) (List.mem_of_getElem? (i := 25) rfl)) hK hS rfl (by decide +kernel) (Nat.le_of_ble_eq_true rfl) (Nat.le_of_ble_eq_true rfl) dX5_init_62 (fun H_31 hB_6 hz_6 ho_6 hS => ?_)
  rw [← hx_6] at hB_6 hz_6
  rw [show Value.ref H_29.size = Value.ref x_6 from by rw [hx_6]]
  have hP := hP.keep (fun j hj => ho_6 _ (by rw [← hx_6]; exact hl_hP_6 j hj))
  have hR_1 := hR_1.keep (fun j hj => ho_6 _ (by rw [← hx_6]; exact hl_hR_1_6 j hj))
  have hR_2 := hR_2.keep (fun j hj => ho_6 _ (by rw [← hx_6]; exact hl_hR_2_6 j hj))
  have hB_3 := hB_3.keep (fun j hj => ho_6 _ (by rw [← hx_6]; exact hl_hB_3_6 j hj))
  have hR_4 := hR_4.keep (fun j hj => ho_6 _ (by rw [← hx_6]; exact hl_hR_4_6 j hj))
  have hR_5 := hR_5.keep (fun j hj => ho_6 _ (by rw [← hx_6]; exact hl_hR_5_6 j hj))
  have hlo_hB_6 : ∀ j, j < 1 → x_6 ≤ (fun _ => x_6) j := fun _ _ => Nat.le_refl _
  refine lv_dup hx hb dX5_init_65 rfl ?_
  have hy_hP_6 : ∀ j, j < 1 → ¬ cAt x_6 H_31.size ((fun _ => a) j) := fun j hj h7 => by have h8 := hl_hP_6 j hj; rcases h7 with h7 | h7 <;> omega
  have hy_hR_1_6 : ∀ j, j < 12 → ¬ cAt x_6 H_31.size (g_1 j) := fun j hj h7 => by have h8 := hl_hR_1_6 j hj; rcases h7 with h7 | h7 <;> omega
  have hy_hR_2_6 : ∀ j, j < 74 → ¬ cAt x_6 H_31.size (g_2 j) := fun j hj h7 => by have h8 := hl_hR_2_6 j hj; rcases h7 with h7 | h7 <;> omega
  have hy_hB_3_6 : ∀ j, j < 1 → ¬ cAt x_6 H_31.size ((fun _ => x_3) j) := fun j hj h7 => by have h8 := hl_hB_3_6 j hj; rcases h7 with h7 | h7 <;> omega
  have hy_hR_4_6 : ∀ j, j < 1 → ¬ cAt x_6 H_31.size ((fun _ => x_4) j) := fun j hj h7 => by have h8 := hl_hR_4_6 j hj; rcases h7 with h7 | h7 <;> omega
  have hy_hR_5_6 : ∀ j, j < 3 → ¬ cAt x_6 H_31.size (g_5 j) := fun j hj h7 => by have h8 := hl_hR_5_6 j hj; rcases h7 with h7 | h7 <;> omega
  have hFc : ∀ q, cAt x_6 H_31.size q → cAt a s.heap.size q := fun q h7 => Or.inr (by rcases h7 with h7 | h7 <;> omega)
  refine va_callv (va_runI (As := []) (rest := [.ref x_6, .ref a]) ⟨hx, hb, hml, hown, hts⟩ (c_X0_init l E x_6 H_31.size) (cwI 0 hts gX5_init_X0_init rfl rfl rfl (hts (.initialized RX0) (List.mem_of_getElem? (i := 25) rfl)) (hts (.methodLink RX5 47 yX0_init) (List.mem_of_getElem? (i := 59) rfl)) (hts (.instanceMethod yX0_init) (List.mem_of_getElem? (i := 60) rfl)) rfl (by decide +kernel) ⟨Nat.le_of_ble_eq_true rfl, Nat.le_of_ble_eq_true rfl⟩) ⟨wC.blind, fun U hU hW => wC.go hB_6 hK hU hW⟩ rfl rfl hl.1 rfl (lv_room (Nat.le_of_ble_eq_true rfl)) dX5_init_66 ⟨Nat.le_of_ble_eq_true rfl, Nat.le_of_ble_eq_true rfl⟩) hS (fun q _ h => hFc q h) hFc (fun u t H_33 locs ht hvm hw hB hz1 hk1 hS => ?_)
  rw [ht] at hB
  have hP := hP.keep (fun j hj => hk1 _ (Nat.lt_of_lt_of_le (hl_hP_6 j hj) (by omega)) (hy_hP_6 j hj))
  have hR_1 := hR_1.keep (fun j hj => hk1 _ (Nat.lt_of_lt_of_le (hl_hR_1_6 j hj) (by omega)) (hy_hR_1_6 j hj))
  have hR_2 := hR_2.keep (fun j hj => hk1 _ (Nat.lt_of_lt_of_le (hl_hR_2_6 j hj) (by omega)) (hy_hR_2_6 j hj))
  have hB_3 := hB_3.keep (fun j hj => hk1 _ (Nat.lt_of_lt_of_le (hl_hB_3_6 j hj) (by omega)) (hy_hB_3_6 j hj))
  have hR_4 := hR_4.keep (fun j hj => hk1 _ (Nat.lt_of_lt_of_le (hl_hR_4_6 j hj) (by omega)) (hy_hR_4_6 j hj))
  have hR_5 := hR_5.keep (fun j hj => hk1 _ (Nat.lt_of_lt_of_le (hl_hR_5_6 j hj) (by omega)) (hy_hR_5_6 j hj))
  obtain ⟨g_6, hg0_6, hge_6, hgI_6, hR_6⟩ := hB
  have hlo_hR_6 : ∀ j, j < 2 → x_6 ≤ g_6 j := fun j hj => (Nat.eq_zero_or_pos j).elim (fun h7 => by rw [h7, hg0_6]; exact Nat.le_refl _) (fun h7 => by have h8 := hge_6 j h7 hj; omega)
  refine w_putF1 (C := RX5) (T := TX5) (N := 7) (ci := 5) (v := .ref x_6) (ty := (.object "MixedBlocks$Elimination")) hx hb hts hin5 tyX5 tyX5_ok nmX5 hown hK hP hAa hS rfl 6 (by decide) (hts (.fieldLink RX5 48 "MixedBlocks" "elimination" "LMixedBlocks$Elimination;") (List.mem_of_getElem? (i := 26) rfl)) (fun _ h9 => h9) rfl hnm rfl (by decide +kernel) rfl rfl (Nat.le_of_ble_eq_true rfl) dX5_init_69 (fun H_34 locs hP hz_p34 hO_p34 hS => ?_)
  have hR_1 := hR_1.keep (fun j hj => hO_p34 _ (by have h8 := hlo_hR_1 j hj; have h9 := hl_hP_1 0 (by decide); exact Nat.ne_of_gt (Nat.lt_of_lt_of_le h9 h8)))
  have hR_2 := hR_2.keep (fun j hj => hO_p34 _ (by have h8 := hlo_hR_2 j hj; have h9 := hl_hP_2 0 (by decide); exact Nat.ne_of_gt (Nat.lt_of_lt_of_le h9 h8)))
  have hB_3 := hB_3.keep (fun j hj => hO_p34 _ (by have h8 := hlo_hB_3 j hj; have h9 := hl_hP_3 0 (by decide); exact Nat.ne_of_gt (Nat.lt_of_lt_of_le h9 h8)))
  have hR_4 := hR_4.keep (fun j hj => hO_p34 _ (by have h8 := hlo_hR_4 j hj; have h9 := hl_hP_4 0 (by decide); exact Nat.ne_of_gt (Nat.lt_of_lt_of_le h9 h8)))
  have hR_5 := hR_5.keep (fun j hj => hO_p34 _ (by have h8 := hlo_hR_5 j hj; have h9 := hl_hP_5 0 (by decide); exact Nat.ne_of_gt (Nat.lt_of_lt_of_le h9 h8)))
  have hR_6 := hR_6.keep (fun j hj => hO_p34 _ (by have h8 := hlo_hR_6 j hj; have h9 := hl_hP_6 0 (by decide); exact Nat.ne_of_gt (Nat.lt_of_lt_of_le h9 h8)))
  exact W.vret hx hb hr (fun t ht hW => ⟨⟨(), rfl, trivial, (by show wB a s.heap.size 94 (fun g => MB E g 0 (fun _ => 0) ss0 0 (fun _ => ss0) t.heap); rw [ht]; exact mb_glue (gs := g_1) (gh := g_2) (gt := g_5) (ge := g_6) (b := x_3) (q := x_4) (m1 := x_1) (m2 := x_2) (m5 := x_5) (m6 := x_6) (by rw [hg0_1, hg0_2, hg0_5, hg0_6]; exact hP) hB_3 hR_4 hR_6 hR_5 hR_1 hR_2 hgI_6 hgI_5 hgI_1 hgI_2 (hl_hP_1 0 (by decide)) hlo_hR_1 hl_hR_1_2 hlo_hR_2 hl_hR_2_3 (hl_hB_3_4 0 (by decide)) (hl_hR_4_5 0 (by decide)) hlo_hR_5 hl_hR_5_6 hlo_hR_6 hsz_1)⟩, hS.F ht⟩) hS.2.2 dX5_init_72
