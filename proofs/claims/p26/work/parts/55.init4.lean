/-- the state as new -/
def ss0 : SS := (8, (fun _ => 0), 0, fun _ => (false, rs0))
theorem stT_lt {E : wE} {g : Nat → Nat} {z : SS} {H : Heap} (h : stT E g z H) : ∀ j, j < 12 → g j < H.size := by
  intro j hj
  by_cases h3 : j < 3
  · exact h.1.lt h3
  · have h4 := rcT_lt (h.2 ((j - 3) / 3) (by omega)) ((j - 3) % 3) (by omega)
    have e : 3 + 3 * ((j - 3) / 3) + (j - 3) % 3 = j := by omega
    unfold rg at h4
    rw [e] at h4
    exact h4
theorem st_glue {E : wE} {a b c m1 m2 sz : Nat} {r0 r1 r2 : Nat → Nat} {f : Nat → Option Nat} {H : Heap} (hP : wP E 1 (fun _ => a) (fun _ => .inr (4, [.int 8, .ref b, .int 0, .ref c])) H) (hV : wP E 1 (fun _ => b) (fun _ => .inl (E.2.1, 12, .inl (fun _ => 0))) H) (hQ : wP E 1 (fun _ => c) (fun _ => .inl (E.2.2.1, 3, .inr (.inr (.inr (.inr f))))) H) (hf : f 0 = some (r0 0) ∧ f 1 = some (r1 0) ∧ f 2 = some (r2 0))
    (h0 : rcT E r0 false rs0 H) (h1 : rcT E r1 false rs0 H) (h2 : rcT E r2 false rs0 H) (I0 : wI 3 r0) (I1 : wI 3 r1) (I2 : wI 3 r2) (hab : a < b) (hbc : b < c) (l0 : ∀ j, j < 3 → c < r0 j) (u0 : ∀ j, j < 3 → r0 j < m1) (l1 : ∀ j, j < 3 → m1 ≤ r1 j) (u1 : ∀ j, j < 3 → r1 j < m2) (l2 : ∀ j, j < 3 → m2 ≤ r2 j) (hsz : sz ≤ b) : wB a sz 12 (fun g => stT E g ss0 H) := by
  have J2 : wI 6 (gApp 3 r1 r2) := wI_app I1 I2 u1 l2
  have hm : m1 ≤ m2 := by
    have q1 := l1 0 (by decide)
    have q2 := u1 0 (by decide)
    omega
  have J1 : wI 9 (gApp 3 r0 (gApp 3 r1 r2)) := wI_app I0 J2 u0 (fun j hj => by
    unfold gApp
    by_cases h3 : j < 3
    · rw [if_pos h3]; exact l1 j h3
    · rw [if_neg h3]; have := l2 (j - 3) (by omega); omega)
  have hcm : c < m1 := by
    have q1 := l0 0 (by decide)
    have q2 := u0 0 (by decide)
    omega
  have hlow : ∀ j, j < 9 → c + 1 ≤ gApp 3 r0 (gApp 3 r1 r2) j := fun j hj => by
    unfold gApp
    by_cases h3 : j < 3
    · rw [if_pos h3]; exact l0 j h3
    · rw [if_neg h3]
      by_cases h6 : j - 3 < 3
      · rw [if_pos h6]; have := l1 (j - 3) h6; omega
      · rw [if_neg h6]; have := l2 (j - 3 - 3) (by omega); omega
  have J0 : wI 12 (gApp 3 (g3 a b c) (gApp 3 r0 (gApp 3 r1 r2))) := wI_app (M := c + 1) (wI_3 hab hbc) J1 (fun i hi => by
    rcases (show i = 0 ∨ i = 1 ∨ i = 2 by omega) with rfl | rfl | rfl
    · show a < c + 1; omega
    · show b < c + 1; omega
    · show c < c + 1; omega) hlow
  refine ⟨gApp 3 (g3 a b c) (gApp 3 r0 (gApp 3 r1 r2)), rfl, fun k hk0 hk => ?_, J0, ?_, ?_⟩
  · by_cases h3 : k < 3
    · rw [gApp_l h3]; exact g3_le hsz (by omega) k hk0 h3
    · have := hlow (k - 3) (by omega)
      have e : gApp 3 (g3 a b c) (gApp 3 r0 (gApp 3 r1 r2)) k = gApp 3 r0 (gApp 3 r1 r2) (k - 3) := if_neg h3
      rw [e]; omega
  · have hQ2 := wPq_ext (f2 := fun i => some (gApp 3 (g3 a b c) (gApp 3 r0 (gApp 3 r1 r2)) (3 + 3 * i))) hQ (fun i hi => by
      rcases (show i = 0 ∨ i = 1 ∨ i = 2 by omega) with rfl | rfl | rfl
      · exact hf.1
      · exact hf.2.1
      · exact hf.2.2)
    exact (wP3 (f := stF E (gApp 3 (g3 a b c) (gApp 3 r0 (gApp 3 r1 r2))) 8 (fun _ => 0) 0) hP hV hQ2 rfl rfl rfl).cg (fun k hk => gApp_l hk) (fun _ _ => rfl)
  · intro i hi
    rcases (show i = 0 ∨ i = 1 ∨ i = 2 by omega) with rfl | rfl | rfl
    · refine rcT_cg h0 (fun k hk => ?_)
      show gApp 3 _ _ (3 + 3 * 0 + k) = _
      rw [show 3 + 3 * 0 + k = 3 + k by omega, gApp_r, gApp_l hk]
    · refine rcT_cg h1 (fun k hk => ?_)
      show gApp 3 _ _ (3 + 3 * 1 + k) = _
      rw [show 3 + 3 * 1 + k = 3 + (3 + k) by omega, gApp_r, gApp_r, gApp_l hk]
    · refine rcT_cg h2 (fun k hk => ?_)
      show gApp 3 _ _ (3 + 3 * 2 + k) = _
      rw [show 3 + 3 * 2 + k = 3 + (3 + (3 + k)) by omega, gApp_r, gApp_r, gApp_r]
set_option maxHeartbeats 4000000 in
set_option maxRecDepth 100000 in
theorem c_X4_init (l : Launch) (E : wE) (a sz : Nat) : Met l yX4_init wsX4_init ({ frames := 2, cells := 11, slots := 147, locals := 64 }) (va_Pc [.ref a] (wCq E 4 [.int 0, .null, .int 0, .null] a sz)) (va_Qv (fun (_ : Unit) => True) (fun _ t => wB a sz 12 (fun g => stT E g ss0 t.heap)) (cAt a sz)) 11 147 (cAt a sz) := by
  refine Met.ofW (cc := cX4_init) (maxL := 2) (ret := none) (by decide) rfl ?_
  intro p e s m args below meth c s₁ B hml hv
  obtain ⟨rfl, hsz, hP, hK, hRX3, hRX4⟩ := hv
  have hx := B.exec
  have hb := B.bytes
  have hr := B.returns
  have hts := atoms_spec (ws := wsX4_init) B.pre
  have hown : s.vm.findClass RX4 = some m.cls := findClass_of_methodNamed B.named
  have hlocks := B.notSynchronized
  have hnm : meth.name = "<init>" := (name_of_methodNamed B.named B.method).1
  subst hsz
  have hA : ∀ q, s.heap.size ≤ q → cAt a s.heap.size q := fun q h => Or.inr h
  have hAa : cAt a s.heap.size a := Or.inl rfl
  have hS : va_S (cAt a s.heap.size) s.heap s.heap [] := va_S.rf
  have hz0 : s.heap.size ≤ s.heap.size := Nat.le_refl _
  have hin4 : ∀ w ∈ wsX40, w ∈ wsX4_init := by decide +kernel
  have hl := lv_entry ([.ref a]) (n := 2) (Nat.le_of_ble_eq_true rfl)
  rw [lg_entry_eq]
  generalize (lg_sl ([.ref a]) ++ List.replicate (2 - (lg_sl ([.ref a])).length) Slot.unset).toArray = ls at hl ⊢
  have hl : lv_has ls 2 [(0, .ref a)] := hl
  have hin3 : ∀ w ∈ wsX30, w ∈ wsX4_init := by decide +kernel
  refine lv_aload_n hx hb dX4_init_0 rfl (lv_at hl 0 rfl) ?_
  refine W.objInit hx hb hown (hts (.methodLink RX4 3 objectInit) (List.mem_of_getElem? (i := 1) rfl)) (hts (.instanceMethod objectInit) (List.mem_of_getElem? (i := 2) rfl)) (hts (.code objectInit ⟨#[0xb1]⟩ 1 none) (List.mem_of_getElem? (i := 3) rfl)) rfl (by rw [hml]; exact hl.1) rfl dX4_init_1 (Nat.le_of_ble_eq_true rfl) (Nat.le_of_ble_eq_true rfl) ?_
  refine W.eq (g2 := F0 m 4 ls []) rfl ?_
  refine lv_aload_n hx hb dX4_init_4 rfl (lv_at hl 0 rfl) ?_
  refine lv_bipush (v := 8) hx hb dX4_init_5 (by decide) ?_
  refine w_put1 (C := RX4) (T := TX4) (N := 4) (ci := 4) (v := .int 8) (ty := .int) hx hb hts hin4 tyX4 tyX4_ok nmX4 hown hK hP hAa hS rfl 0 (by decide) (hts (.fieldLink RX4 9 "MixedBlocks$State" "blocks" "I") (List.mem_of_getElem? (i := 4) rfl)) (fun _ h9 => h9) rfl (by decide +kernel) rfl rfl (Nat.le_of_ble_eq_true rfl) dX4_init_7 (fun H_5 locs hP hz_p5 hO_p5 hS => ?_)
  refine lv_aload_n hx hb dX4_init_10 rfl (lv_at hl 0 rfl) ?_
  refine lv_bipush (v := 12) hx hb dX4_init_11 (by decide) ?_
  obtain ⟨x_1, hx_1⟩ : ∃ x : Nat, x = H_5.size := ⟨_, rfl⟩
  have hl_hP_1 : ∀ j, j < 1 → (fun _ => a) j < x_1 := by rw [hx_1]; exact (fun j hj => hP.lt hj)
  have hsz_1 : s.heap.size ≤ x_1 := by rw [hx_1]; exact hS.1
  refine w_newi hx hb (hts (.arrayClass .int) (List.mem_of_getElem? (i := 5) rfl)) hK hS 12 (by decide) (by decide) (by decide) (Nat.le_of_ble_eq_true rfl) (Nat.le_of_ble_eq_true rfl) dX4_init_13 (fun H_8 hB_1 hz_1 ho_1 hS => ?_)
  rw [← hx_1] at hB_1 hz_1
  rw [show Value.ref H_5.size = Value.ref x_1 from by rw [hx_1]]
  have hP := hP.keep (fun j hj => ho_1 _ (by rw [← hx_1]; exact hl_hP_1 j hj))
  have hlo_hB_1 : ∀ j, j < 1 → x_1 ≤ (fun _ => x_1) j := fun _ _ => Nat.le_refl _
  refine w_putF1 (C := RX4) (T := TX4) (N := 4) (ci := 4) (v := .ref x_1) (ty := (.array .int)) hx hb hts hin4 tyX4 tyX4_ok nmX4 hown hK hP hAa hS rfl 1 (by decide) (hts (.fieldLink RX4 15 "MixedBlocks$State" "values" "[I") (List.mem_of_getElem? (i := 6) rfl)) (fun _ h9 => h9) rfl hnm rfl (by decide +kernel) rfl rfl (Nat.le_of_ble_eq_true rfl) dX4_init_15 (fun H_9 locs hP hz_p9 hO_p9 hS => ?_)
  have hB_1 := hB_1.keep (fun j hj => hO_p9 _ (by have h8 := hlo_hB_1 j hj; have h9 := hl_hP_1 0 (by decide); exact Nat.ne_of_gt (Nat.lt_of_lt_of_le h9 h8)))
  refine lv_aload_n hx hb dX4_init_18 rfl (lv_at hl 0 rfl) ?_
  refine lv_iconst (v := 0) hx hb dX4_init_19 (by decide) ?_
  refine w_put1 (C := RX4) (T := TX4) (N := 4) (ci := 4) (v := .int 0) (ty := .int) hx hb hts hin4 tyX4 tyX4_ok nmX4 hown hK hP hAa hS rfl 2 (by decide) (hts (.fieldLink RX4 19 "MixedBlocks$State" "sent" "I") (List.mem_of_getElem? (i := 7) rfl)) (fun _ h9 => h9) rfl (by decide +kernel) rfl rfl (Nat.le_of_ble_eq_true rfl) dX4_init_20 (fun H_12 locs hP hz_p12 hO_p12 hS => ?_)
  have hB_1 := hB_1.keep (fun j hj => hO_p12 _ (by have h8 := hlo_hB_1 j hj; have h9 := hl_hP_1 0 (by decide); exact Nat.ne_of_gt (Nat.lt_of_lt_of_le h9 h8)))
  refine lv_aload_n hx hb dX4_init_23 rfl (lv_at hl 0 rfl) ?_
  refine lv_iconst (v := 3) hx hb dX4_init_24 (by decide) ?_
  obtain ⟨x_2, hx_2⟩ : ∃ x : Nat, x = H_12.size := ⟨_, rfl⟩
  have hl_hP_2 : ∀ j, j < 1 → (fun _ => a) j < x_2 := by rw [hx_2]; exact (fun j hj => hP.lt hj)
  have hl_hB_1_2 : ∀ j, j < 1 → (fun _ => x_1) j < x_2 := by rw [hx_2]; exact (fun j hj => hB_1.lt hj)
  have hsz_2 : s.heap.size ≤ x_2 := by rw [hx_2]; exact hS.1
  refine w_newq1 hx hb hown (hts (.classLink RX4 22 RX3) (List.mem_of_getElem? (i := 8) rfl)) hRX3 hK hS 1 rfl 3 (by decide) (by decide) (by decide) (Nat.le_of_ble_eq_true rfl) (Nat.le_of_ble_eq_true rfl) dX4_init_25 (fun H_15 hB_2 hz_2 ho_2 hS => ?_)
  rw [← hx_2] at hB_2 hz_2
  rw [show Value.ref H_12.size = Value.ref x_2 from by rw [hx_2]]
  have hP := hP.keep (fun j hj => ho_2 _ (by rw [← hx_2]; exact hl_hP_2 j hj))
  have hB_1 := hB_1.keep (fun j hj => ho_2 _ (by rw [← hx_2]; exact hl_hB_1_2 j hj))
  have hlo_hB_2 : ∀ j, j < 1 → x_2 ≤ (fun _ => x_2) j := fun _ _ => Nat.le_refl _
  refine w_putF1 (C := RX4) (T := TX4) (N := 4) (ci := 4) (v := .ref x_2) (ty := (.array (.object "MixedBlocks$Receiver"))) hx hb hts hin4 tyX4 tyX4_ok nmX4 hown hK hP hAa hS rfl 3 (by decide) (hts (.fieldLink RX4 24 "MixedBlocks$State" "receivers" "[LMixedBlocks$Receiver;") (List.mem_of_getElem? (i := 9) rfl)) (fun _ h9 => h9) rfl hnm rfl (by decide +kernel) rfl rfl (Nat.le_of_ble_eq_true rfl) dX4_init_28 (fun H_16 locs hP hz_p16 hO_p16 hS => ?_)
  have hB_1 := hB_1.keep (fun j hj => hO_p16 _ (by have h8 := hlo_hB_1 j hj; have h9 := hl_hP_1 0 (by decide); exact Nat.ne_of_gt (Nat.lt_of_lt_of_le h9 h8)))
  have hB_2 := hB_2.keep (fun j hj => hO_p16 _ (by have h8 := hlo_hB_2 j hj; have h9 := hl_hP_2 0 (by decide); exact Nat.ne_of_gt (Nat.lt_of_lt_of_le h9 h8)))
  refine lv_iconst (v := 0) hx hb dX4_init_31 (by decide) ?_
  refine lv_istore_n (lv' := [(1, .int 0), (0, .ref a)]) hx hb dX4_init_32 rfl hl (by decide) rfl (fun ls hl => ?_)
  refine lv_iload_n hx hb dX4_init_33 rfl (lv_at hl 0 rfl) ?_
  refine lv_aload_n hx hb dX4_init_34 rfl (lv_at hl 1 rfl) ?_
  refine w_get (C := RX4) (T := TX4) (N := 4) (ci := 4) (v := .ref x_2) hx hb hts hin4 hown hK hP 0 (by decide) rfl rfl 3 (by decide) (hts (.fieldLink RX4 24 "MixedBlocks$State" "receivers" "[LMixedBlocks$Receiver;") (List.mem_of_getElem? (i := 9) rfl)) (fun _ h9 => h9) rfl dX4_init_35 ?_
  refine w_alenq (v := 3) hx hb hK hB_2 0 (by decide) 1 rfl rfl rfl dX4_init_38 ?_
  refine lv_icmp_ge (tgt := 61) hx hb dX4_init_39 (by decide) (fun h7 => absurd h7 (by decide)) (fun _ => ?_)
  refine lv_aload_n hx hb dX4_init_42 rfl (lv_at hl 1 rfl) ?_
  refine w_get (C := RX4) (T := TX4) (N := 4) (ci := 4) (v := .ref x_2) hx hb hts hin4 hown hK hP 0 (by decide) rfl rfl 3 (by decide) (hts (.fieldLink RX4 24 "MixedBlocks$State" "receivers" "[LMixedBlocks$Receiver;") (List.mem_of_getElem? (i := 9) rfl)) (fun _ h9 => h9) rfl dX4_init_43 ?_
  refine lv_iload_n hx hb dX4_init_46 rfl (lv_at hl 0 rfl) ?_
  obtain ⟨x_3, hx_3⟩ : ∃ x : Nat, x = H_16.size := ⟨_, rfl⟩
  have hl_hP_3 : ∀ j, j < 1 → (fun _ => a) j < x_3 := by rw [hx_3]; exact (fun j hj => hP.lt hj)
  have hl_hB_1_3 : ∀ j, j < 1 → (fun _ => x_1) j < x_3 := by rw [hx_3]; exact (fun j hj => hB_1.lt hj)
  have hl_hB_2_3 : ∀ j, j < 1 → (fun _ => x_2) j < x_3 := by rw [hx_3]; exact (fun j hj => hB_2.lt hj)
  have hsz_3 : s.heap.size ≤ x_3 := by rw [hx_3]; exact hS.1
  refine w_newo (C := RX3) (T := TX3) (N := 8) (ci := 3) (fs := [.int 0, .int 0, .null, .null, .int 0, .int 0, .int 0, .int 0]) hx hb hts hin3 tyX3 tyX3_ok hown (hts (.classLink RX4 22 RX3) (List.mem_of_getElem? (i := 8) rfl)) (hts (.instantiable RX3 8) (List.mem_of_getElem? (i := 10) rfl)) (hts (.initialized RX3) (List.mem_of_getElem? (i := 11) rfl)) hK hS rfl (by decide +kernel) (Nat.le_of_ble_eq_true rfl) (Nat.le_of_ble_eq_true rfl) dX4_init_47 (fun H_27 hB_3 hz_3 ho_3 hS => ?_)
  rw [← hx_3] at hB_3 hz_3
  rw [show Value.ref H_16.size = Value.ref x_3 from by rw [hx_3]]
  have hP := hP.keep (fun j hj => ho_3 _ (by rw [← hx_3]; exact hl_hP_3 j hj))
  have hB_1 := hB_1.keep (fun j hj => ho_3 _ (by rw [← hx_3]; exact hl_hB_1_3 j hj))
  have hB_2 := hB_2.keep (fun j hj => ho_3 _ (by rw [← hx_3]; exact hl_hB_2_3 j hj))
  have hlo_hB_3 : ∀ j, j < 1 → x_3 ≤ (fun _ => x_3) j := fun _ _ => Nat.le_refl _
  refine lv_dup hx hb dX4_init_50 rfl ?_
  have hy_hP_3 : ∀ j, j < 1 → ¬ cAt x_3 H_27.size ((fun _ => a) j) := fun j hj h7 => by have h8 := hl_hP_3 j hj; rcases h7 with h7 | h7 <;> omega
  have hy_hB_1_3 : ∀ j, j < 1 → ¬ cAt x_3 H_27.size ((fun _ => x_1) j) := fun j hj h7 => by have h8 := hl_hB_1_3 j hj; rcases h7 with h7 | h7 <;> omega
  have hy_hB_2_3 : ∀ j, j < 1 → ¬ cAt x_3 H_27.size ((fun _ => x_2) j) := fun j hj h7 => by have h8 := hl_hB_2_3 j hj; rcases h7 with h7 | h7 <;> omega
  have hFc : ∀ q, cAt x_3 H_27.size q → cAt a s.heap.size q := fun q h7 => Or.inr (by rcases h7 with h7 | h7 <;> omega)
  refine va_callv (va_runI (As := []) (rest := [.ref x_3, .int 0, .ref x_2]) ⟨hx, hb, hml, hown, hts⟩ (c_X3_init l E x_3 H_27.size) (cwI 0 hts gX4_init_X3_init rfl rfl rfl (hts (.initialized RX3) (List.mem_of_getElem? (i := 11) rfl)) (hts (.methodLink RX4 28 yX3_init) (List.mem_of_getElem? (i := 12) rfl)) (hts (.instanceMethod yX3_init) (List.mem_of_getElem? (i := 13) rfl)) rfl (by decide +kernel) ⟨Nat.le_of_ble_eq_true rfl, Nat.le_of_ble_eq_true rfl⟩) ⟨wC.blind, fun U hU hW => wC.go hB_3 hK hU hW⟩ rfl rfl hl.1 rfl (lv_room (Nat.le_of_ble_eq_true rfl)) dX4_init_51 ⟨Nat.le_of_ble_eq_true rfl, Nat.le_of_ble_eq_true rfl⟩) hS (fun q _ h => hFc q h) hFc (fun u t H_29 locs ht hvm hw hB hz1 hk1 hS => ?_)
  rw [ht] at hB
  have hP := hP.keep (fun j hj => hk1 _ (Nat.lt_of_lt_of_le (hl_hP_3 j hj) (by omega)) (hy_hP_3 j hj))
  have hB_1 := hB_1.keep (fun j hj => hk1 _ (Nat.lt_of_lt_of_le (hl_hB_1_3 j hj) (by omega)) (hy_hB_1_3 j hj))
  have hB_2 := hB_2.keep (fun j hj => hk1 _ (Nat.lt_of_lt_of_le (hl_hB_2_3 j hj) (by omega)) (hy_hB_2_3 j hj))
  obtain ⟨g_3, hg0_3, hge_3, hgI_3, hR_3⟩ := hB
  have hlo_hR_3 : ∀ j, j < 3 → x_3 ≤ g_3 j := fun j hj => (Nat.eq_zero_or_pos j).elim (fun h7 => by rw [h7, hg0_3]; exact Nat.le_refl _) (fun h7 => by have h8 := hge_3 j h7 hj; omega)
  rw [← hg0_3]
  obtain ⟨_, _, _, hPI⟩ := id hR_3
  refine w_astq1 (r := (RX3, TX3, 8)) (ci := 3) hx hb hK hB_2 (Or.inr hsz_2) hS 1 rfl hPI 0 (by decide) rfl rfl (i := 0) (by unfold vp_in; decide) dX4_init_54 (fun H_30 locs hB_2 hz_p30 hO_p30 hS => ?_)
  have hP := hP.keep (fun j hj => hO_p30 _ (by have := hl_hP_2 j hj; exact Nat.ne_of_lt this))
  have hB_1 := hB_1.keep (fun j hj => hO_p30 _ (Nat.ne_of_lt (hl_hB_1_2 j hj)))
  have hR_3 := hR_3.keep (fun j hj => hO_p30 _ (by have h8 := hlo_hR_3 j hj; have h9 := hl_hB_2_3 0 (by decide); exact Nat.ne_of_gt (Nat.lt_of_lt_of_le h9 h8)))
  refine lv_iinc (v := 1) (lv' := [(1, .int 1), (0, .ref a)]) hx hb dX4_init_55 hl (k := 0) rfl (by decide) (by decide) rfl (fun ls hl => ?_)
  refine lv_goto (tgt := 33) hx hb dX4_init_58 (by decide) ?_
  refine lv_iload_n hx hb dX4_init_33 rfl (lv_at hl 0 rfl) ?_
  refine lv_aload_n hx hb dX4_init_34 rfl (lv_at hl 1 rfl) ?_
  refine w_get (C := RX4) (T := TX4) (N := 4) (ci := 4) (v := .ref x_2) hx hb hts hin4 hown hK hP 0 (by decide) rfl rfl 3 (by decide) (hts (.fieldLink RX4 24 "MixedBlocks$State" "receivers" "[LMixedBlocks$Receiver;") (List.mem_of_getElem? (i := 9) rfl)) (fun _ h9 => h9) rfl dX4_init_35 ?_
  refine w_alenq (v := 3) hx hb hK hB_2 0 (by decide) 1 rfl rfl rfl dX4_init_38 ?_
  refine lv_icmp_ge (tgt := 61) hx hb dX4_init_39 (by decide) (fun h7 => absurd h7 (by decide)) (fun _ => ?_)
  refine lv_aload_n hx hb dX4_init_42 rfl (lv_at hl 1 rfl) ?_
  refine w_get (C := RX4) (T := TX4) (N := 4) (ci := 4) (v := .ref x_2) hx hb hts hin4 hown hK hP 0 (by decide) rfl rfl 3 (by decide) (hts (.fieldLink RX4 24 "MixedBlocks$State" "receivers" "[LMixedBlocks$Receiver;") (List.mem_of_getElem? (i := 9) rfl)) (fun _ h9 => h9) rfl dX4_init_43 ?_
  refine lv_iload_n hx hb dX4_init_46 rfl (lv_at hl 0 rfl) ?_
  obtain ⟨x_4, hx_4⟩ : ∃ x : Nat, x = H_30.size := ⟨_, rfl⟩
  have hl_hP_4 : ∀ j, j < 1 → (fun _ => a) j < x_4 := by rw [hx_4]; exact (fun j hj => hP.lt hj)
  have hl_hB_1_4 : ∀ j, j < 1 → (fun _ => x_1) j < x_4 := by rw [hx_4]; exact (fun j hj => hB_1.lt hj)
  have hl_hB_2_4 : ∀ j, j < 1 → (fun _ => x_2) j < x_4 := by rw [hx_4]; exact (fun j hj => hB_2.lt hj)
  have hl_hR_3_4 : ∀ j, j < 3 → g_3 j < x_4 := by rw [hx_4]; exact (rcT_lt hR_3)
  have hsz_4 : s.heap.size ≤ x_4 := by rw [hx_4]; exact hS.1
  refine w_newo (C := RX3) (T := TX3) (N := 8) (ci := 3) (fs := [.int 0, .int 0, .null, .null, .int 0, .int 0, .int 0, .int 0]) hx hb hts hin3 tyX3 tyX3_ok hown (hts (.classLink RX4 22 RX3) (List.mem_of_getElem? (i := 8) rfl)) (hts (.instantiable RX3 8) (List.mem_of_getElem? (i := 10) rfl)) (hts (.initialized RX3) (List.mem_of_getElem? (i := 11) rfl)) hK hS rfl (by decide +kernel) (Nat.le_of_ble_eq_true rfl) (Nat.le_of_ble_eq_true rfl) dX4_init_47 (fun H_41 hB_4 hz_4 ho_4 hS => ?_)
  rw [← hx_4] at hB_4 hz_4
  rw [show Value.ref H_30.size = Value.ref x_4 from by rw [hx_4]]
  have hP := hP.keep (fun j hj => ho_4 _ (by rw [← hx_4]; exact hl_hP_4 j hj))
  have hB_1 := hB_1.keep (fun j hj => ho_4 _ (by rw [← hx_4]; exact hl_hB_1_4 j hj))
  have hB_2 := hB_2.keep (fun j hj => ho_4 _ (by rw [← hx_4]; exact hl_hB_2_4 j hj))
  have hR_3 := hR_3.keep (fun j hj => ho_4 _ (by rw [← hx_4]; exact hl_hR_3_4 j hj))
  have hlo_hB_4 : ∀ j, j < 1 → x_4 ≤ (fun _ => x_4) j := fun _ _ => Nat.le_refl _
  refine lv_dup hx hb dX4_init_50 rfl ?_
  have hy_hP_4 : ∀ j, j < 1 → ¬ cAt x_4 H_41.size ((fun _ => a) j) := fun j hj h7 => by have h8 := hl_hP_4 j hj; rcases h7 with h7 | h7 <;> omega
  have hy_hB_1_4 : ∀ j, j < 1 → ¬ cAt x_4 H_41.size ((fun _ => x_1) j) := fun j hj h7 => by have h8 := hl_hB_1_4 j hj; rcases h7 with h7 | h7 <;> omega
  have hy_hB_2_4 : ∀ j, j < 1 → ¬ cAt x_4 H_41.size ((fun _ => x_2) j) := fun j hj h7 => by have h8 := hl_hB_2_4 j hj; rcases h7 with h7 | h7 <;> omega
  have hy_hR_3_4 : ∀ j, j < 3 → ¬ cAt x_4 H_41.size (g_3 j) := fun j hj h7 => by have h8 := hl_hR_3_4 j hj; rcases h7 with h7 | h7 <;> omega
  have hFc : ∀ q, cAt x_4 H_41.size q → cAt a s.heap.size q := fun q h7 => Or.inr (by rcases h7 with h7 | h7 <;> omega)
  refine va_callv (va_runI (As := []) (rest := [.ref x_4, .int 1, .ref x_2]) ⟨hx, hb, hml, hown, hts⟩ (c_X3_init l E x_4 H_41.size) (cwI 0 hts gX4_init_X3_init rfl rfl rfl (hts (.initialized RX3) (List.mem_of_getElem? (i := 11) rfl)) (hts (.methodLink RX4 28 yX3_init) (List.mem_of_getElem? (i := 12) rfl)) (hts (.instanceMethod yX3_init) (List.mem_of_getElem? (i := 13) rfl)) rfl (by decide +kernel) ⟨Nat.le_of_ble_eq_true rfl, Nat.le_of_ble_eq_true rfl⟩) ⟨wC.blind, fun U hU hW => wC.go hB_4 hK hU hW⟩ rfl rfl hl.1 rfl (lv_room (Nat.le_of_ble_eq_true rfl)) dX4_init_51 ⟨Nat.le_of_ble_eq_true rfl, Nat.le_of_ble_eq_true rfl⟩) hS (fun q _ h => hFc q h) hFc (fun u t H_43 locs ht hvm hw hB hz1 hk1 hS => ?_)
  rw [ht] at hB
  have hP := hP.keep (fun j hj => hk1 _ (Nat.lt_of_lt_of_le (hl_hP_4 j hj) (by omega)) (hy_hP_4 j hj))
  have hB_1 := hB_1.keep (fun j hj => hk1 _ (Nat.lt_of_lt_of_le (hl_hB_1_4 j hj) (by omega)) (hy_hB_1_4 j hj))
  have hB_2 := hB_2.keep (fun j hj => hk1 _ (Nat.lt_of_lt_of_le (hl_hB_2_4 j hj) (by omega)) (hy_hB_2_4 j hj))
  have hR_3 := hR_3.keep (fun j hj => hk1 _ (Nat.lt_of_lt_of_le (hl_hR_3_4 j hj) (by omega)) (hy_hR_3_4 j hj))
  obtain ⟨g_4, hg0_4, hge_4, hgI_4, hR_4⟩ := hB
  have hlo_hR_4 : ∀ j, j < 3 → x_4 ≤ g_4 j := fun j hj => (Nat.eq_zero_or_pos j).elim (fun h7 => by rw [h7, hg0_4]; exact Nat.le_refl _) (fun h7 => by have h8 := hge_4 j h7 hj; omega)
  rw [← hg0_4]
  obtain ⟨_, _, _, hPI⟩ := id hR_4
  refine w_astq1 (r := (RX3, TX3, 8)) (ci := 3) hx hb hK hB_2 (Or.inr hsz_2) hS 1 rfl hPI 0 (by decide) rfl rfl (i := 1) (by unfold vp_in; decide) dX4_init_54 (fun H_44 locs hB_2 hz_p44 hO_p44 hS => ?_)
  have hP := hP.keep (fun j hj => hO_p44 _ (by have := hl_hP_2 j hj; exact Nat.ne_of_lt this))
  have hB_1 := hB_1.keep (fun j hj => hO_p44 _ (Nat.ne_of_lt (hl_hB_1_2 j hj)))
  have hR_3 := hR_3.keep (fun j hj => hO_p44 _ (by have h8 := hlo_hR_3 j hj; have h9 := hl_hB_2_3 0 (by decide); exact Nat.ne_of_gt (Nat.lt_of_lt_of_le h9 h8)))
  have hR_4 := hR_4.keep (fun j hj => hO_p44 _ (by have h8 := hlo_hR_4 j hj; have h9 := hl_hB_2_4 0 (by decide); exact Nat.ne_of_gt (Nat.lt_of_lt_of_le h9 h8)))
  refine lv_iinc (v := 2) (lv' := [(1, .int 2), (0, .ref a)]) hx hb dX4_init_55 hl (k := 0) rfl (by decide) (by decide) rfl (fun ls hl => ?_)
  refine lv_goto (tgt := 33) hx hb dX4_init_58 (by decide) ?_
  refine lv_iload_n hx hb dX4_init_33 rfl (lv_at hl 0 rfl) ?_
  refine lv_aload_n hx hb dX4_init_34 rfl (lv_at hl 1 rfl) ?_
  refine w_get (C := RX4) (T := TX4) (N := 4) (ci := 4) (v := .ref x_2) hx hb hts hin4 hown hK hP 0 (by decide) rfl rfl 3 (by decide) (hts (.fieldLink RX4 24 "MixedBlocks$State" "receivers" "[LMixedBlocks$Receiver;") (List.mem_of_getElem? (i := 9) rfl)) (fun _ h9 => h9) rfl dX4_init_35 ?_
  refine w_alenq (v := 3) hx hb hK hB_2 0 (by decide) 1 rfl rfl rfl dX4_init_38 ?_
  refine lv_icmp_ge (tgt := 61) hx hb dX4_init_39 (by decide) (fun h7 => absurd h7 (by decide)) (fun _ => ?_)
  refine lv_aload_n hx hb dX4_init_42 rfl (lv_at hl 1 rfl) ?_
  refine w_get (C := RX4) (T := TX4) (N := 4) (ci := 4) (v := .ref x_2) hx hb hts hin4 hown hK hP 0 (by decide) rfl rfl 3 (by decide) (hts (.fieldLink RX4 24 "MixedBlocks$State" "receivers" "[LMixedBlocks$Receiver;") (List.mem_of_getElem? (i := 9) rfl)) (fun _ h9 => h9) rfl dX4_init_43 ?_
  refine lv_iload_n hx hb dX4_init_46 rfl (lv_at hl 0 rfl) ?_
  obtain ⟨x_5, hx_5⟩ : ∃ x : Nat, x = H_44.size := ⟨_, rfl⟩
  have hl_hP_5 : ∀ j, j < 1 → (fun _ => a) j < x_5 := by rw [hx_5]; exact (fun j hj => hP.lt hj)
  have hl_hB_1_5 : ∀ j, j < 1 → (fun _ => x_1) j < x_5 := by rw [hx_5]; exact (fun j hj => hB_1.lt hj)
  have hl_hB_2_5 : ∀ j, j < 1 → (fun _ => x_2) j < x_5 := by rw [hx_5]; exact (fun j hj => hB_2.lt hj)
  have hl_hR_3_5 : ∀ j, j < 3 → g_3 j < x_5 := by rw [hx_5]; exact (rcT_lt hR_3)
  have hl_hR_4_5 : ∀ j, j < 3 → g_4 j < x_5 := by rw [hx_5]; exact (rcT_lt hR_4)
  have hsz_5 : s.heap.size ≤ x_5 := by rw [hx_5]; exact hS.1
  refine w_newo (C := RX3) (T := TX3) (N := 8) (ci := 3) (fs := [.int 0, .int 0, .null, .null, .int 0, .int 0, .int 0, .int 0]) hx hb hts hin3 tyX3 tyX3_ok hown (hts (.classLink RX4 22 RX3) (List.mem_of_getElem? (i := 8) rfl)) (hts (.instantiable RX3 8) (List.mem_of_getElem? (i := 10) rfl)) (hts (.initialized RX3) (List.mem_of_getElem? (i := 11) rfl)) hK hS rfl (by decide +kernel) (Nat.le_of_ble_eq_true rfl) (Nat.le_of_ble_eq_true rfl) dX4_init_47 (fun H_55 hB_5 hz_5 ho_5 hS => ?_)
  rw [← hx_5] at hB_5 hz_5
  rw [show Value.ref H_44.size = Value.ref x_5 from by rw [hx_5]]
  have hP := hP.keep (fun j hj => ho_5 _ (by rw [← hx_5]; exact hl_hP_5 j hj))
  have hB_1 := hB_1.keep (fun j hj => ho_5 _ (by rw [← hx_5]; exact hl_hB_1_5 j hj))
  have hB_2 := hB_2.keep (fun j hj => ho_5 _ (by rw [← hx_5]; exact hl_hB_2_5 j hj))
  have hR_3 := hR_3.keep (fun j hj => ho_5 _ (by rw [← hx_5]; exact hl_hR_3_5 j hj))
  have hR_4 := hR_4.keep (fun j hj => ho_5 _ (by rw [← hx_5]; exact hl_hR_4_5 j hj))
  have hlo_hB_5 : ∀ j, j < 1 → x_5 ≤ (fun _ => x_5) j := fun _ _ => Nat.le_refl _
  refine lv_dup hx hb dX4_init_50 rfl ?_
  have hy_hP_5 : ∀ j, j < 1 → ¬ cAt x_5 H_55.size ((fun _ => a) j) := fun j hj h7 => by have h8 := hl_hP_5 j hj; rcases h7 with h7 | h7 <;> omega
  have hy_hB_1_5 : ∀ j, j < 1 → ¬ cAt x_5 H_55.size ((fun _ => x_1) j) := fun j hj h7 => by have h8 := hl_hB_1_5 j hj; rcases h7 with h7 | h7 <;> omega
  have hy_hB_2_5 : ∀ j, j < 1 → ¬ cAt x_5 H_55.size ((fun _ => x_2) j) := fun j hj h7 => by have h8 := hl_hB_2_5 j hj; rcases h7 with h7 | h7 <;> omega
  have hy_hR_3_5 : ∀ j, j < 3 → ¬ cAt x_5 H_55.size (g_3 j) := fun j hj h7 => by have h8 := hl_hR_3_5 j hj; rcases h7 with h7 | h7 <;> omega
  have hy_hR_4_5 : ∀ j, j < 3 → ¬ cAt x_5 H_55.size (g_4 j) := fun j hj h7 => by have h8 := hl_hR_4_5 j hj; rcases h7 with h7 | h7 <;> omega
  have hFc : ∀ q, cAt x_5 H_55.size q → cAt a s.heap.size q := fun q h7 => Or.inr (by rcases h7 with h7 | h7 <;> omega)
  refine va_callv (va_runI (As := []) (rest := [.ref x_5, .int 2, .ref x_2]) ⟨hx, hb, hml, hown, hts⟩ (c_X3_init l E x_5 H_55.size) (cwI 0 hts gX4_init_X3_init rfl rfl rfl (hts (.initialized RX3) (List.mem_of_getElem? (i := 11) rfl)) (hts (.methodLink RX4 28 yX3_init) (List.mem_of_getElem? (i := 12) rfl)) (hts (.instanceMethod yX3_init) (List.mem_of_getElem? (i := 13) rfl)) rfl (by decide +kernel) ⟨Nat.le_of_ble_eq_true rfl, Nat.le_of_ble_eq_true rfl⟩) ⟨wC.blind, fun U hU hW => wC.go hB_5 hK hU hW⟩ rfl rfl hl.1 rfl (lv_room (Nat.le_of_ble_eq_true rfl)) dX4_init_51 ⟨Nat.le_of_ble_eq_true rfl, Nat.le_of_ble_eq_true rfl⟩) hS (fun q _ h => hFc q h) hFc (fun u t H_57 locs ht hvm hw hB hz1 hk1 hS => ?_)
  rw [ht] at hB
  have hP := hP.keep (fun j hj => hk1 _ (Nat.lt_of_lt_of_le (hl_hP_5 j hj) (by omega)) (hy_hP_5 j hj))
  have hB_1 := hB_1.keep (fun j hj => hk1 _ (Nat.lt_of_lt_of_le (hl_hB_1_5 j hj) (by omega)) (hy_hB_1_5 j hj))
  have hB_2 := hB_2.keep (fun j hj => hk1 _ (Nat.lt_of_lt_of_le (hl_hB_2_5 j hj) (by omega)) (hy_hB_2_5 j hj))
  have hR_3 := hR_3.keep (fun j hj => hk1 _ (Nat.lt_of_lt_of_le (hl_hR_3_5 j hj) (by omega)) (hy_hR_3_5 j hj))
  have hR_4 := hR_4.keep (fun j hj => hk1 _ (Nat.lt_of_lt_of_le (hl_hR_4_5 j hj) (by omega)) (hy_hR_4_5 j hj))
  obtain ⟨g_5, hg0_5, hge_5, hgI_5, hR_5⟩ := hB
  have hlo_hR_5 : ∀ j, j < 3 → x_5 ≤ g_5 j := fun j hj => (Nat.eq_zero_or_pos j).elim (fun h7 => by rw [h7, hg0_5]; exact Nat.le_refl _) (fun h7 => by have h8 := hge_5 j h7 hj; omega)
  rw [← hg0_5]
  obtain ⟨_, _, _, hPI⟩ := id hR_5
  refine w_astq1 (r := (RX3, TX3, 8)) (ci := 3) hx hb hK hB_2 (Or.inr hsz_2) hS 1 rfl hPI 0 (by decide) rfl rfl (i := 2) (by unfold vp_in; decide) dX4_init_54 (fun H_58 locs hB_2 hz_p58 hO_p58 hS => ?_)
  have hP := hP.keep (fun j hj => hO_p58 _ (by have := hl_hP_2 j hj; exact Nat.ne_of_lt this))
  have hB_1 := hB_1.keep (fun j hj => hO_p58 _ (Nat.ne_of_lt (hl_hB_1_2 j hj)))
  have hR_3 := hR_3.keep (fun j hj => hO_p58 _ (by have h8 := hlo_hR_3 j hj; have h9 := hl_hB_2_3 0 (by decide); exact Nat.ne_of_gt (Nat.lt_of_lt_of_le h9 h8)))
  have hR_4 := hR_4.keep (fun j hj => hO_p58 _ (by have h8 := hlo_hR_4 j hj; have h9 := hl_hB_2_4 0 (by decide); exact Nat.ne_of_gt (Nat.lt_of_lt_of_le h9 h8)))
  have hR_5 := hR_5.keep (fun j hj => hO_p58 _ (by have h8 := hlo_hR_5 j hj; have h9 := hl_hB_2_5 0 (by decide); exact Nat.ne_of_gt (Nat.lt_of_lt_of_le h9 h8)))
  refine lv_iinc (v := 3) (lv' := [(1, .int 3), (0, .ref a)]) hx hb dX4_init_55 hl (k := 0) rfl (by decide) (by decide) rfl (fun ls hl => ?_)
  refine lv_goto (tgt := 33) hx hb dX4_init_58 (by decide) ?_
  refine lv_iload_n hx hb dX4_init_33 rfl (lv_at hl 0 rfl) ?_
  refine lv_aload_n hx hb dX4_init_34 rfl (lv_at hl 1 rfl) ?_
  refine w_get (C := RX4) (T := TX4) (N := 4) (ci := 4) (v := .ref x_2) hx hb hts hin4 hown hK hP 0 (by decide) rfl rfl 3 (by decide) (hts (.fieldLink RX4 24 "MixedBlocks$State" "receivers" "[LMixedBlocks$Receiver;") (List.mem_of_getElem? (i := 9) rfl)) (fun _ h9 => h9) rfl dX4_init_35 ?_
  refine w_alenq (v := 3) hx hb hK hB_2 0 (by decide) 1 rfl rfl rfl dX4_init_38 ?_
  refine lv_icmp_ge (tgt := 61) hx hb dX4_init_39 (by decide) (fun _ => ?_) (fun h7 => absurd (show (3 : Int32) ≤ 3 by decide) h7)
  exact W.vret hx hb hr (fun t ht hW => ⟨⟨(), rfl, trivial, (by show wB a s.heap.size 12 (fun g => stT E g ss0 t.heap); rw [ht]; exact st_glue hP hB_1 hB_2 ⟨rfl, rfl, rfl⟩ hR_3 hR_4 hR_5 hgI_3 hgI_4 hgI_5 (hl_hP_1 0 (by decide)) (hl_hB_1_2 0 (by decide)) (fun j hj => Nat.lt_of_lt_of_le (hl_hB_2_3 0 (by decide)) (hlo_hR_3 j hj)) hl_hR_3_4 hlo_hR_4 hl_hR_4_5 hlo_hR_5 hsz_1)⟩, hS.F ht⟩) hS.2.2 dX4_init_61
