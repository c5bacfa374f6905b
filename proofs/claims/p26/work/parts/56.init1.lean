theorem stT.keep {E : wE} {g : Nat → Nat} {z : SS} {H H1 : Heap} (h : stT E g z H) (hk : ∀ k, k < 12 → H1[g k]? = H[g k]?) : stT E g z H1 := stP.keep h hk
theorem stT_cg {E : wE} {g g2 : Nat → Nat} {z : SS} {H : Heap} (h : stT E g z H) (hg : ∀ k, k < 12 → g2 k = g k) : stT E g2 z H := by
  refine ⟨wP_at.mpr fun k hk => ?_, fun i hi => rcT_cg (h.2 i hi) (fun k hk => hg _ (by omega))⟩
  have h1 := wP_at.mp h.1 k hk
  rw [hg k (by omega)]
  rcases (show k = 0 ∨ k = 1 ∨ k = 2 by omega) with rfl | rfl | rfl
  · show va_at E.1 vwCl (g 0, .inr (4, [.int (nI z.1), .ref (g2 1), .int z.2.2.1, .ref (g2 2)])) H
    rw [hg 1 (by decide), hg 2 (by decide)]
    exact h1
  · exact h1
  · show H[g 2]? = some (vp_cell E.2.2.1 (3, .inr (.inr (.inr (.inr (fun i => some (g2 (3 + 3 * i))))))))
    have h2 : H[g 2]? = some (vp_cell E.2.2.1 (3, .inr (.inr (.inr (.inr (fun i => some (g (3 + 3 * i)))))))) := h1
    rw [h2, vp_cell_q, vp_cell_q]
    exact congrArg some (arrV_ext fun i hi => by rw [hg _ (by omega)])
/-- n blocks of w addresses -/
def gBl (w : Nat) (u : Nat → Nat → Nat) : Nat → Nat := fun k => u (k / w) (k % w)
theorem gBl_at {w : Nat} {u : Nat → Nat → Nat} {i j : Nat} (hj : j < w) : gBl w u (w * i + j) = u i j := by
  unfold gBl
  rw [Nat.mul_add_div (by omega), Nat.div_eq_of_lt hj, Nat.mul_add_mod, Nat.mod_eq_of_lt hj, Nat.add_zero]
theorem bl_mono {w n : Nat} (hw : 0 < w) {u : Nat → Nat → Nat} {M : Nat → Nat} (hm : ∀ i, i < n → ∀ j, j < w → M i ≤ u i j ∧ u i j < M (i + 1)) : ∀ d i, i + d ≤ n → M i ≤ M (i + d) := by
  intro d
  induction d with
  | zero => intro i _; exact Nat.le_refl _
  | succ d ih =>
    intro i hi
    have h1 := ih i (by omega)
    have h2 := hm (i + d) (by omega) 0 hw
    have e : i + (d + 1) = i + d + 1 := by omega
    rw [e]
    omega
theorem wI_bl {w n : Nat} (hw : 0 < w) {u : Nat → Nat → Nat} {M : Nat → Nat} (hI : ∀ i, i < n → wI w (u i)) (hm : ∀ i, i < n → ∀ j, j < w → M i ≤ u i j ∧ u i j < M (i + 1)) : wI (w * n) (gBl w u) := by
  intro x y hx hy e
  have hx1 : x / w < n := Nat.div_lt_of_lt_mul hx
  have hy1 : y / w < n := Nat.div_lt_of_lt_mul hy
  have hx2 : x % w < w := Nat.mod_lt _ hw
  have hy2 : y % w < w := Nat.mod_lt _ hw
  unfold gBl at e
  rcases Nat.lt_trichotomy (x / w) (y / w) with q | q | q
  · have h1 := (hm _ hx1 _ hx2).2
    have h2 := (hm _ hy1 _ hy2).1
    have h3 := bl_mono hw hm (y / w - (x / w + 1)) (x / w + 1) (by omega)
    rw [show x / w + 1 + (y / w - (x / w + 1)) = y / w by omega] at h3
    omega
  · rw [q] at e
    have h1 := hI _ hy1 _ _ hx2 hy2 e
    rw [← Nat.div_add_mod x w, ← Nat.div_add_mod y w, q, h1]
  · have h1 := (hm _ hy1 _ hy2).2
    have h2 := (hm _ hx1 _ hx2).1
    have h3 := bl_mono hw hm (x / w - (y / w + 1)) (y / w + 1) (by omega)
    rw [show y / w + 1 + (x / w - (y / w + 1)) = x / w by omega] at h3
    omega
theorem hi_glue {E : wE} {a c sz : Nat} {u : Nat → Nat → Nat} {M : Nat → Nat} {f : Nat → Option Nat} {H : Heap} (hP : wP E 1 (fun _ => a) (fun _ => .inr (1, [.ref c, .int 0, .int 0])) H) (hQ : wP E 1 (fun _ => c) (fun _ => .inl (E.2.2.2, 6, .inr (.inr (.inr (.inr f))))) H) (hf : ∀ i, i < 6 → f i = some (u i 0)) (hR : ∀ i, i < 6 → stT E (u i) ss0 H) (hI : ∀ i, i < 6 → wI 12 (u i)) (hac : a < c) (hcM : c < M 0) (hm : ∀ i, i < 6 → ∀ j, j < 12 → M i ≤ u i j ∧ u i j < M (i + 1)) (hsz : sz ≤ c) :
    wB a sz 74 (fun g => wP E 2 g (hiF E g 0 0) H ∧ hiS E g (fun _ => ss0) H) := by
  have J1 : wI 72 (gBl 12 u) := wI_bl (by decide) hI hm
  have hlow : ∀ j, j < 72 → c + 1 ≤ gBl 12 u j := fun j hj => by
    have h1 := (hm (j / 12) (by omega) (j % 12) (by omega)).1
    have h3 := bl_mono (by decide) hm (j / 12) 0 (by omega)
    rw [Nat.zero_add] at h3
    show c + 1 ≤ u (j / 12) (j % 12)
    omega
  have J0 : wI 74 (gApp 2 (g2 a c) (gBl 12 u)) := wI_app (M := c + 1) (wI_2 hac) J1 (fun i hi => by
    rcases (show i = 0 ∨ i = 1 by omega) with rfl | rfl
    · show a < c + 1; omega
    · show c < c + 1; omega) hlow
  refine ⟨gApp 2 (g2 a c) (gBl 12 u), rfl, fun k hk0 hk => ?_, J0, ?_, ?_⟩
  · by_cases h3 : k < 2
    · rw [gApp_l h3]; exact g2_le hsz k hk0 h3
    · have := hlow (k - 2) (by omega)
      have e : gApp 2 (g2 a c) (gBl 12 u) k = gBl 12 u (k - 2) := if_neg h3
      rw [e]; omega
  · have hQ2 := wPq_ext (f2 := fun i => some (gApp 2 (g2 a c) (gBl 12 u) (2 + 12 * i))) hQ (fun i hi => by
      have e : 12 * i = 12 * i + 0 := rfl
      rw [hf i hi, gApp_r, e, gBl_at (by decide)])
    exact (wP2 (f := hiF E (gApp 2 (g2 a c) (gBl 12 u)) 0 0) hP hQ2 rfl rfl).cg (fun k hk => gApp_l hk) (fun _ _ => rfl)
  · intro i hi
    refine stT_cg (hR i hi) (fun k hk => ?_)
    show gApp 2 _ _ (2 + 12 * i + k) = _
    rw [Nat.add_assoc, gApp_r, gBl_at hk]
set_option maxHeartbeats 4000000 in
set_option maxRecDepth 100000 in
theorem c_X1_init (l : Launch) (E : wE) (a sz : Nat) : Met l yX1_init wsX1_init ({ frames := 3, cells := 73, slots := 912, locals := 90 }) (va_Pc [.ref a] (wCq E 1 [.null, .int 0, .int 0] a sz)) (va_Qv (fun (_ : Unit) => True) (fun _ t => wB a sz 74 (fun g => wP E 2 g (hiF E g 0 0) t.heap ∧ hiS E g (fun _ => ss0) t.heap)) (cAt a sz)) 73 912 (cAt a sz) := by
  refine Met.ofW (cc := cX1_init) (maxL := 2) (ret := none) (by decide) rfl ?_
  intro p e s m args below meth c s₁ B hml hv
  obtain ⟨rfl, hsz, hP, hK, hRX3, hRX4⟩ := hv
  have hx := B.exec
  have hb := B.bytes
  have hr := B.returns
  have hts := atoms_spec (ws := wsX1_init) B.pre
  have hown : s.vm.findClass RX1 = some m.cls := findClass_of_methodNamed B.named
  have hlocks := B.notSynchronized
  have hnm : meth.name = "<init>" := (name_of_methodNamed B.named B.method).1
  subst hsz
  have hA : ∀ q, s.heap.size ≤ q → cAt a s.heap.size q := fun q h => Or.inr h
  have hAa : cAt a s.heap.size a := Or.inl rfl
  have hS : va_S (cAt a s.heap.size) s.heap s.heap [] := va_S.rf
  have hz0 : s.heap.size ≤ s.heap.size := Nat.le_refl _
  have hin1 : ∀ w ∈ wsX10, w ∈ wsX1_init := by decide +kernel
  have hl := lv_entry ([.ref a]) (n := 2) (Nat.le_of_ble_eq_true rfl)
  rw [lg_entry_eq]
  generalize (lg_sl ([.ref a]) ++ List.replicate (2 - (lg_sl ([.ref a])).length) Slot.unset).toArray = ls at hl ⊢
  have hl : lv_has ls 2 [(0, .ref a)] := hl
  have hin4 : ∀ w ∈ wsX40, w ∈ wsX1_init := by decide +kernel
  refine lv_aload_n hx hb dX1_init_0 rfl (lv_at hl 0 rfl) ?_
  refine W.objInit hx hb hown (hts (.methodLink RX1 3 objectInit) (List.mem_of_getElem? (i := 1) rfl)) (hts (.instanceMethod objectInit) (List.mem_of_getElem? (i := 2) rfl)) (hts (.code objectInit ⟨#[0xb1]⟩ 1 none) (List.mem_of_getElem? (i := 3) rfl)) rfl (by rw [hml]; exact hl.1) rfl dX1_init_1 (Nat.le_of_ble_eq_true rfl) (Nat.le_of_ble_eq_true rfl) ?_
  refine W.eq (g2 := F0 m 4 ls []) rfl ?_
  refine lv_aload_n hx hb dX1_init_4 rfl (lv_at hl 0 rfl) ?_
  refine lv_bipush (v := 6) hx hb dX1_init_5 (by decide) ?_
  obtain ⟨x_1, hx_1⟩ : ∃ x : Nat, x = s.heap.size := ⟨_, rfl⟩
  have hl_hP_1 : ∀ j, j < 1 → (fun _ => a) j < x_1 := by rw [hx_1]; exact (fun j hj => hP.lt hj)
  have hsz_1 : s.heap.size ≤ x_1 := by rw [hx_1]; exact hS.1
  refine w_newq1 hx hb hown (hts (.classLink RX1 9 RX4) (List.mem_of_getElem? (i := 4) rfl)) hRX4 hK hS 2 rfl 6 (by decide) (by decide) (by decide) (Nat.le_of_ble_eq_true rfl) (Nat.le_of_ble_eq_true rfl) dX1_init_7 (fun H_5 hB_1 hz_1 ho_1 hS => ?_)
  rw [← hx_1] at hB_1 hz_1
  rw [show Value.ref s.heap.size = Value.ref x_1 from by rw [hx_1]]
  have hP := hP.keep (fun j hj => ho_1 _ (by rw [← hx_1]; exact hl_hP_1 j hj))
  have hlo_hB_1 : ∀ j, j < 1 → x_1 ≤ (fun _ => x_1) j := fun _ _ => Nat.le_refl _
  refine w_putF1 (C := RX1) (T := TX1) (N := 3) (ci := 1) (v := .ref x_1) (ty := (.array (.object "MixedBlocks$State"))) hx hb hts hin1 tyX1 tyX1_ok nmX1 hown hK hP hAa hS rfl 0 (by decide) (hts (.fieldLink RX1 11 "MixedBlocks$History" "ring" "[LMixedBlocks$State;") (List.mem_of_getElem? (i := 5) rfl)) (fun _ h9 => h9) rfl hnm rfl (by decide +kernel) rfl rfl (Nat.le_of_ble_eq_true rfl) dX1_init_10 (fun H_6 locs hP hz_p6 hO_p6 hS => ?_)
  have hB_1 := hB_1.keep (fun j hj => hO_p6 _ (by have h8 := hlo_hB_1 j hj; have h9 := hl_hP_1 0 (by decide); exact Nat.ne_of_gt (Nat.lt_of_lt_of_le h9 h8)))
  refine lv_iconst (v := 0) hx hb dX1_init_13 (by decide) ?_
  refine lv_istore_n (lv' := [(1, .int 0), (0, .ref a)]) hx hb dX1_init_14 rfl hl (by decide) rfl (fun ls hl => ?_)
  refine lv_iload_n hx hb dX1_init_15 rfl (lv_at hl 0 rfl) ?_
  refine lv_aload_n hx hb dX1_init_16 rfl (lv_at hl 1 rfl) ?_
  refine w_get (C := RX1) (T := TX1) (N := 3) (ci := 1) (v := .ref x_1) hx hb hts hin1 hown hK hP 0 (by decide) rfl rfl 0 (by decide) (hts (.fieldLink RX1 11 "MixedBlocks$History" "ring" "[LMixedBlocks$State;") (List.mem_of_getElem? (i := 5) rfl)) (fun _ h9 => h9) rfl dX1_init_17 ?_
  refine w_alenq (v := 6) hx hb hK hB_1 0 (by decide) 2 rfl rfl rfl dX1_init_20 ?_
  refine lv_icmp_ge (tgt := 43) hx hb dX1_init_21 (by decide) (fun h7 => absurd h7 (by decide)) (fun _ => ?_)
  refine lv_aload_n hx hb dX1_init_24 rfl (lv_at hl 1 rfl) ?_
  refine w_get (C := RX1) (T := TX1) (N := 3) (ci := 1) (v := .ref x_1) hx hb hts hin1 hown hK hP 0 (by decide) rfl rfl 0 (by decide) (hts (.fieldLink RX1 11 "MixedBlocks$History" "ring" "[LMixedBlocks$State;") (List.mem_of_getElem? (i := 5) rfl)) (fun _ h9 => h9) rfl dX1_init_25 ?_
  refine lv_iload_n hx hb dX1_init_28 rfl (lv_at hl 0 rfl) ?_
  obtain ⟨x_2, hx_2⟩ : ∃ x : Nat, x = H_6.size := ⟨_, rfl⟩
  have hl_hP_2 : ∀ j, j < 1 → (fun _ => a) j < x_2 := by rw [hx_2]; exact (fun j hj => hP.lt hj)
  have hl_hB_1_2 : ∀ j, j < 1 → (fun _ => x_1) j < x_2 := by rw [hx_2]; exact (fun j hj => hB_1.lt hj)
  have hsz_2 : s.heap.size ≤ x_2 := by rw [hx_2]; exact hS.1
  refine w_newo (C := RX4) (T := TX4) (N := 4) (ci := 4) (fs := [.int 0, .null, .int 0, .null]) hx hb hts hin4 tyX4 tyX4_ok hown (hts (.classLink RX1 9 RX4) (List.mem_of_getElem? (i := 4) rfl)) (hts (.instantiable RX4 4) (List.mem_of_getElem? (i := 6) rfl)) (hts (.initialized RX4) (List.mem_of_getElem? (i := 7) rfl)) hK hS rfl (by decide +kernel) (Nat.le_of_ble_eq_true rfl) (Nat.le_of_ble_eq_true rfl) dX1_init_29 (fun H_17 hB_2 hz_2 ho_2 hS => ?_)
  rw [← hx_2] at hB_2 hz_2
  rw [show Value.ref H_6.size = Value.ref x_2 from by rw [hx_2]]
  have hP := hP.keep (fun j hj => ho_2 _ (by rw [← hx_2]; exact hl_hP_2 j hj))
  have hB_1 := hB_1.keep (fun j hj => ho_2 _ (by rw [← hx_2]; exact hl_hB_1_2 j hj))
  have hlo_hB_2 : ∀ j, j < 1 → x_2 ≤ (fun _ => x_2) j := fun _ _ => Nat.le_refl _
  refine lv_dup hx hb dX1_init_32 rfl ?_
  have hy_hP_2 : ∀ j, j < 1 → ¬ cAt x_2 H_17.size ((fun _ => a) j) := fun j hj h7 => by have h8 := hl_hP_2 j hj; rcases h7 with h7 | h7 <;> omega
  have hy_hB_1_2 : ∀ j, j < 1 → ¬ cAt x_2 H_17.size ((fun _ => x_1) j) := fun j hj h7 => by have h8 := hl_hB_1_2 j hj; rcases h7 with h7 | h7 <;> omega
  have hFc : ∀ q, cAt x_2 H_17.size q → cAt a s.heap.size q := fun q h7 => Or.inr (by rcases h7 with h7 | h7 <;> omega)
  refine va_callv (va_runI (As := []) (rest := [.ref x_2, .int 0, .ref x_1]) ⟨hx, hb, hml, hown, hts⟩ (c_X4_init l E x_2 H_17.size) (cwI 0 hts gX1_init_X4_init rfl rfl rfl (hts (.initialized RX4) (List.mem_of_getElem? (i := 7) rfl)) (hts (.methodLink RX1 17 yX4_init) (List.mem_of_getElem? (i := 10) rfl)) (hts (.instanceMethod yX4_init) (List.mem_of_getElem? (i := 11) rfl)) rfl (by decide +kernel) ⟨Nat.le_of_ble_eq_true rfl, Nat.le_of_ble_eq_true rfl⟩) ⟨wCq.blind, fun U hU hW => wCq.go hB_2 hK hRX3 hRX4 hU hW⟩ rfl rfl hl.1 rfl (lv_room (Nat.le_of_ble_eq_true rfl)) dX1_init_33 ⟨Nat.le_of_ble_eq_true rfl, Nat.le_of_ble_eq_true rfl⟩) hS (fun q _ h => hFc q h) hFc (fun u t H_19 locs ht hvm hw hB hz1 hk1 hS => ?_)
  rw [ht] at hB
  have hP := hP.keep (fun j hj => hk1 _ (Nat.lt_of_lt_of_le (hl_hP_2 j hj) (by omega)) (hy_hP_2 j hj))
  have hB_1 := hB_1.keep (fun j hj => hk1 _ (Nat.lt_of_lt_of_le (hl_hB_1_2 j hj) (by omega)) (hy_hB_1_2 j hj))
  obtain ⟨g_2, hg0_2, hge_2, hgI_2, hR_2⟩ := hB
  have hlo_hR_2 : ∀ j, j < 12 → x_2 ≤ g_2 j := fun j hj => (Nat.eq_zero_or_pos j).elim (fun h7 => by rw [h7, hg0_2]; exact Nat.le_refl _) (fun h7 => by have h8 := hge_2 j h7 hj; omega)
  rw [← hg0_2]
  have hPI := hR_2.1
  refine w_astq1 (r := (RX4, TX4, 4)) (ci := 4) hx hb hK hB_1 (Or.inr hsz_1) hS 2 rfl hPI 0 (by decide) rfl rfl (i := 0) (by unfold vp_in; decide) dX1_init_36 (fun H_20 locs hB_1 hz_p20 hO_p20 hS => ?_)
  have hP := hP.keep (fun j hj => hO_p20 _ (by have := hl_hP_1 j hj; exact Nat.ne_of_lt this))
  have hR_2 := hR_2.keep (fun j hj => hO_p20 _ (by have h8 := hlo_hR_2 j hj; have h9 := hl_hB_1_2 0 (by decide); exact Nat.ne_of_gt (Nat.lt_of_lt_of_le h9 h8)))
  refine lv_iinc (v := 1) (lv' := [(1, .int 1), (0, .ref a)]) hx hb dX1_init_37 hl (k := 0) rfl (by decide) (by decide) rfl (fun ls hl => ?_)
  refine lv_goto (tgt := 15) hx hb dX1_init_40 (by decide) ?_
  refine lv_iload_n hx hb dX1_init_15 rfl (lv_at hl 0 rfl) ?_
  refine lv_aload_n hx hb dX1_init_16 rfl (lv_at hl 1 rfl) ?_
  refine w_get (C := RX1) (T := TX1) (N := 3) (ci := 1) (v := .ref x_1) hx hb hts hin1 hown hK hP 0 (by decide) rfl rfl 0 (by decide) (hts (.fieldLink RX1 11 "MixedBlocks$History" "ring" "[LMixedBlocks$State;") (List.mem_of_getElem? (i := 5) rfl)) (fun _ h9 => h9) rfl dX1_init_17 ?_
  refine w_alenq (v := 6) hx hb hK hB_1 0 (by decide) 2 rfl rfl rfl dX1_init_20 ?_
  refine lv_icmp_ge (tgt := 43) hx hb dX1_init_21 (by decide) (fun h7 => absurd h7 (by decide)) (fun _ => ?_)
  refine lv_aload_n hx hb dX1_init_24 rfl (lv_at hl 1 rfl) ?_
  refine w_get (C := RX1) (T := TX1) (N := 3) (ci := 1) (v := .ref x_1) hx hb hts hin1 hown hK hP 0 (by decide) rfl rfl 0 (by decide) (hts (.fieldLink RX1 11 "MixedBlocks$History" "ring" "[LMixedBlocks$State;") (List.mem_of_getElem? (i := 5) rfl)) (fun _ h9 => h9) rfl dX1_init_25 ?_
  refine lv_iload_n hx hb dX1_init_28 rfl (lv_at hl 0 rfl) ?_
  obtain ⟨x_3, hx_3⟩ : ∃ x : Nat, x = H_20.size := ⟨_, rfl⟩
  have hl_hP_3 : ∀ j, j < 1 → (fun _ => a) j < x_3 := by rw [hx_3]; exact (fun j hj => hP.lt hj)
  have hl_hB_1_3 : ∀ j, j < 1 → (fun _ => x_1) j < x_3 := by rw [hx_3]; exact (fun j hj => hB_1.lt hj)
  have hl_hR_2_3 : ∀ j, j < 12 → g_2 j < x_3 := by rw [hx_3]; exact (stT_lt hR_2)
  have hsz_3 : s.heap.size ≤ x_3 := by rw [hx_3]; exact hS.1
  refine w_newo (C := RX4) (T := TX4) (N := 4) (ci := 4) (fs := [.int 0, .null, .int 0, .null]) hx hb hts hin4 tyX4 tyX4_ok hown (hts (.classLink RX1 9 RX4) (List.mem_of_getElem? (i := 4) rfl)) (hts (.instantiable RX4 4) (List.mem_of_getElem? (i := 6) rfl)) (hts (.initialized RX4) (List.mem_of_getElem? (i := 7) rfl)) hK hS rfl (by decide +kernel) (Nat.le_of_ble_eq_true rfl) (Nat.le_of_ble_eq_true rfl) dX1_init_29 (fun H_31 hB_3 hz_3 ho_3 hS => ?_)
  rw [← hx_3] at hB_3 hz_3
  rw [show Value.ref H_20.size = Value.ref x_3 from by rw [hx_3]]
  have hP := hP.keep (fun j hj => ho_3 _ (by rw [← hx_3]; exact hl_hP_3 j hj))
  have hB_1 := hB_1.keep (fun j hj => ho_3 _ (by rw [← hx_3]; exact hl_hB_1_3 j hj))
  have hR_2 := hR_2.keep (fun j hj => ho_3 _ (by rw [← hx_3]; exact hl_hR_2_3 j hj))
  have hlo_hB_3 : ∀ j, j < 1 → x_3 ≤ (fun _ => x_3) j := fun _ _ => Nat.le_refl _
  refine lv_dup hx hb dX1_init_32 rfl ?_
  have hy_hP_3 : ∀ j, j < 1 → ¬ cAt x_3 H_31.size ((fun _ => a) j) := fun j hj h7 => by have h8 := hl_hP_3 j hj; rcases h7 with h7 | h7 <;> omega
  have hy_hB_1_3 : ∀ j, j < 1 → ¬ cAt x_3 H_31.size ((fun _ => x_1) j) := fun j hj h7 => by have h8 := hl_hB_1_3 j hj; rcases h7 with h7 | h7 <;> omega
  have hy_hR_2_3 : ∀ j, j < 12 → ¬ cAt x_3 H_31.size (g_2 j) := fun j hj h7 => by have h8 := hl_hR_2_3 j hj; rcases h7 with h7 | h7 <;> omega
  have hFc : ∀ q, cAt x_3 H_31.size q → cAt a s.heap.size q := fun q h7 => Or.inr (by rcases h7 with h7 | h7 <;> omega)
  refine va_callv (va_runI (As := []) (rest := [.ref x_3, .int 1, .ref x_1]) ⟨hx, hb, hml, hown, hts⟩ (c_X4_init l E x_3 H_31.size) (cwI 0 hts gX1_init_X4_init rfl rfl rfl (hts (.initialized RX4) (List.mem_of_getElem? (i := 7) rfl)) (hts (.methodLink RX1 17 yX4_init) (List.mem_of_getElem? (i := 10) rfl)) (hts (.instanceMethod yX4_init) (List.mem_of_getElem? (i := 11) rfl)) rfl (by decide +kernel) ⟨Nat.le_of_ble_eq_true rfl, Nat.le_of_ble_eq_true rfl⟩) ⟨wCq.blind, fun U hU hW => wCq.go hB_3 hK hRX3 hRX4 hU hW⟩ rfl rfl hl.1 rfl (lv_room (Nat.le_of_ble_eq_true rfl)) dX1_init_33 ⟨Nat.le_of_ble_eq_true rfl, Nat.le_of_ble_eq_true rfl⟩) hS (fun q _ h => hFc q h) hFc (fun u t H_33 locs ht hvm hw hB hz1 hk1 hS => ?_)
  rw [ht] at hB
  have hP := hP.keep (fun j hj => hk1 _ (Nat.lt_of_lt_of_le (hl_hP_3 j hj) (by omega)) (hy_hP_3 j hj))
  have hB_1 := hB_1.keep (fun j hj => hk1 _ (Nat.lt_of_lt_of_le (hl_hB_1_3 j hj) (by omega)) (hy_hB_1_3 j hj))
  have hR_2 := hR_2.keep (fun j hj => hk1 _ (Nat.lt_of_lt_of_le (hl_hR_2_3 j hj) (by omega)) (hy_hR_2_3 j hj))
  obtain ⟨g_3, hg0_3, hge_3, hgI_3, hR_3⟩ := hB
  have hlo_hR_3 : ∀ j, j < 12 → x_3 ≤ g_3 j := fun j hj => (Nat.eq_zero_or_pos j).elim (fun h7 => by rw [h7, hg0_3]; exact Nat.le_refl _) (fun h7 => by have h8 := hge_3 j h7 hj; omega)
  rw [← hg0_3]
  have hPI := hR_3.1
  refine w_astq1 (r := (RX4, TX4, 4)) (ci := 4) hx hb hK hB_1 (Or.inr hsz_1) hS 2 rfl hPI 0 (by decide) rfl rfl (i := 1) (by unfold vp_in; decide) dX1_init_36 (fun H_34 locs hB_1 hz_p34 hO_p34 hS => ?_)
  have hP := hP.keep (fun j hj => hO_p34 _ (by have := hl_hP_1 j hj; exact Nat.ne_of_lt this))
  have hR_2 := hR_2.keep (fun j hj => hO_p34 _ (by have h8 := hlo_hR_2 j hj; have h9 := hl_hB_1_2 0 (by decide); exact Nat.ne_of_gt (Nat.lt_of_lt_of_le h9 h8)))
  have hR_3 := hR_3.keep (fun j hj => hO_p34 _ (by have h8 := hlo_hR_3 j hj; have h9 := hl_hB_1_3 0 (by decide); exact Nat.ne_of_gt (Nat.lt_of_lt_of_le h9 h8)))
  refine lv_iinc (v := 2) (lv' := [(1, .int 2), (0, .ref a)]) hx hb dX1_init_37 hl (k := 0) rfl (by decide) (by decide) rfl (fun ls hl => ?_)
  refine lv_goto (tgt := 15) hx hb dX1_init_40 (by decide) ?_
  refine lv_iload_n hx hb dX1_init_15 rfl (lv_at hl 0 rfl) ?_
  refine lv_aload_n hx hb dX1_init_16 rfl (lv_at hl 1 rfl) ?_
  refine w_get (C := RX1) (T := TX1) (N := 3) (ci := 1) (v := .ref x_1) hx hb hts hin1 hown hK hP 0 (by decide) rfl rfl 0 (by decide) (hts (.fieldLink RX1 11 "MixedBlocks$History" "ring" "[LMixedBlocks$State;") (List.mem_of_getElem? (i := 5) rfl)) (fun _ h9 => h9) rfl dX1_init_17 ?_
  refine w_alenq (v := 6) hx hb hK hB_1 0 (by decide) 2 rfl rfl rfl dX1_init_20 ?_
  refine lv_icmp_ge (tgt := 43) hx hb dX1_init_21 (by decide) (fun h7 => absurd h7 (by decide)) (fun _ => ?_)
  refine lv_aload_n hx hb dX1_init_24 rfl (lv_at hl 1 rfl) ?_
  refine w_get (C := RX1) (T := TX1) (N := 3) (ci := 1) (v := .ref x_1) hx hb hts hin1 hown hK hP 0 (by decide) rfl rfl 0 (by decide) (hts (.fieldLink RX1 11 "MixedBlocks$History" "ring" "[LMixedBlocks$State;") (List.mem_of_getElem? (i := 5) rfl)) (fun _ h9 => h9) rfl dX1_init_25 ?_
  refine lv_iload_n hx hb dX1_init_28 rfl (lv_at hl 0 rfl) ?_
  obtain ⟨x_4, hx_4⟩ : ∃ x : Nat, x = H_34.size := ⟨_, rfl⟩
  have hl_hP_4 : ∀ j, j < 1 → (fun _ => a) j < x_4 := by rw [hx_4]; exact (fun j hj => hP.lt hj)
  have hl_hB_1_4 : ∀ j, j < 1 → (fun _ => x_1) j < x_4 := by rw [hx_4]; exact (fun j hj => hB_1.lt hj)
  have hl_hR_2_4 : ∀ j, j < 12 → g_2 j < x_4 := by rw [hx_4]; exact (stT_lt hR_2)
  have hl_hR_3_4 : ∀ j, j < 12 → g_3 j < x_4 := by rw [hx_4]; exact (stT_lt hR_3)
  have hsz_4 : s.heap.size ≤ x_4 := by rw [hx_4]; exact hS.1
  refine w_newo (C := RX4) (T := TX4) (N := 4) (ci := 4) (fs := [.int 0, .null, .int 0, .null]) hx hb hts hin4 tyX4 tyX4_ok hown (hts (.classLink RX1 9 RX4) (List.mem_of_getElem? (i := 4) rfl)) (hts (.instantiable RX4 4) (List.mem_of_getElem? (i := 6) rfl)) (hts (.initialized RX4) (List.mem_of_getElem? (i := 7) rfl)) hK hS rfl (by decide +kernel) (Nat.le_of_ble_eq_true rfl) (Nat.le_of_ble_eq_true rfl) dX1_init_29 (fun H_45 hB_4 hz_4 ho_4 hS => ?_)
  rw [← hx_4] at hB_4 hz_4
  rw [show Value.ref H_34.size = Value.ref x_4 from by rw [hx_4]]
  have hP := hP.keep (fun j hj => ho_4 _ (by rw [← hx_4]; exact hl_hP_4 j hj))
  have hB_1 := hB_1.keep (fun j hj => ho_4 _ (by rw [← hx_4]; exact hl_hB_1_4 j hj))
  have hR_2 := hR_2.keep (fun j hj => ho_4 _ (by rw [← hx_4]; exact hl_hR_2_4 j hj))
  have hR_3 := hR_3.keep (fun j hj => ho_4 _ (by rw [← hx_4]; exact hl_hR_3_4 j hj))
  have hlo_hB_4 : ∀ j, j < 1 → x_4 ≤ (fun _ => x_4) j := fun _ _ => Nat.le_refl _
  refine lv_dup hx hb dX1_init_32 rfl ?_
  have hy_hP_4 : ∀ j, j < 1 → ¬ cAt x_4 H_45.size ((fun _ => a) j) := fun j hj h7 => by have h8 := hl_hP_4 j hj; rcases h7 with h7 | h7 <;> omega
  have hy_hB_1_4 : ∀ j, j < 1 → ¬ cAt x_4 H_45.size ((fun _ => x_1) j) := fun j hj h7 => by have h8 := hl_hB_1_4 j hj; rcases h7 with h7 | h7 <;> omega
  have hy_hR_2_4 : ∀ j, j < 12 → ¬ cAt x_4 H_45.size (g_2 j) := fun j hj h7 => by have h8 := hl_hR_2_4 j hj; rcases h7 with h7 | h7 <;> omega
  have hy_hR_3_4 : ∀ j, j < 12 → ¬ cAt x_4 H_45.size (g_3 j) := fun j hj h7 => by have h8 := hl_hR_3_4 j hj; rcases h7 with h7 | h7 <;> omega
  have hFc : ∀ q, cAt x_4 H_45.size q → cAt a s.heap.size q := fun q h7 => Or.inr (by rcases h7 with h7 | h7 <;> omega)
  refine va_callv (va_runI (As := []) (rest := [.ref x_4, .int 2, .ref x_1]) ⟨hx, hb, hml, hown, hts⟩ (c_X4_init l E x_4 H_45.size) (cwI 0 hts gX1_init_X4_init rfl rfl rfl (hts (.initialized RX4) (List.mem_of_getElem? (i := 7) rfl)) (hts (.methodLink RX1 17 yX4_init) (List.mem_of_getElem? (i := 10) rfl)) (hts (.instanceMethod yX4_init) (List.mem_of_getElem? (i := 11) rfl)) rfl (by decide +kernel) ⟨Nat.le_of_ble_eq_true rfl, Nat.le_of_ble_eq_true rfl⟩) ⟨wCq.blind, fun U hU hW => wCq.go hB_4 hK hRX3 hRX4 hU hW⟩ rfl rfl hl.1 rfl (lv_room (Nat.le_of_ble_eq_true rfl)) dX1_init_33 ⟨Nat.le_of_ble_eq_true rfl, Nat.le_of_ble_eq_true rfl⟩) hS (fun q _ h => hFc q h) hFc (fun u t H_47 locs ht hvm hw hB hz1 hk1 hS => ?_)
  rw [ht] at hB
  have hP := hP.keep (fun j hj => hk1 _ (Nat.lt_of_lt_of_le (hl_hP_4 j hj) (by omega)) (hy_hP_4 j hj))
  have hB_1 := hB_1.keep (fun j hj => hk1 _ (Nat.lt_of_lt_of_le (hl_hB_1_4 j hj) (by omega)) (hy_hB_1_4 j hj))
  have hR_2 := hR_2.keep (fun j hj => hk1 _ (Nat.lt_of_lt_of_le (hl_hR_2_4 j hj) (by omega)) (hy_hR_2_4 j hj))
  have hR_3 := hR_3.keep (fun j hj => hk1 _ (Nat.lt_of_lt_of_le (hl_hR_3_4 j hj) (by omega)) (hy_hR_3_4 j hj))
  obtain ⟨g_4, hg0_4, hge_4, hgI_4, hR_4⟩ := hB
  have hlo_hR_4 : ∀ j, j < 12 → x_4 ≤ g_4 j := fun j hj => (Nat.eq_zero_or_pos j).elim (fun h7 => by rw [h7, hg0_4]; exact Nat.le_refl _) (fun h7 => by have h8 := hge_4 j h7 hj; omega)
  rw [← hg0_4]
  have hPI := hR_4.1
  refine w_astq1 (r := (RX4, TX4, 4)) (ci := 4) hx hb hK hB_1 (Or.inr hsz_1) hS 2 rfl hPI 0 (by decide) rfl rfl (i := 2) (by unfold vp_in; decide) dX1_init_36 (fun H_48 locs hB_1 hz_p48 hO_p48 hS => ?_)
  have hP := hP.keep (fun j hj => hO_p48 _ (by have := hl_hP_1 j hj; exact Nat.ne_of_lt this))
  have hR_2 := hR_2.keep (fun j hj => hO_p48 _ (by have h8 := hlo_hR_2 j hj; have h9 := hl_hB_1_2 0 (by decide); exact Nat.ne_of_gt (Nat.lt_of_lt_of_le h9 h8)))
  have hR_3 := hR_3.keep (fun j hj => hO_p48 _ (by have h8 := hlo_hR_3 j hj; have h9 := hl_hB_1_3 0 (by decide); exact Nat.ne_of_gt (Nat.lt_of_lt_of_le h9 h8)))
  have hR_4 := hR_4.keep (fun j hj => hO_p48 _ (by have h8 := hlo_hR_4 j hj; have h9 := hl_hB_1_4 0 (by decide); exact Nat.ne_of_gt (Nat.lt_of_lt_of_le h9 h8)))
  refine lv_iinc (v := 3) (lv' := [(1, .int 3), (0, .ref a)]) hx hb dX1_init_37 hl (k := 0) rfl (by decide) (by decide) rfl (fun ls hl => ?_)
  refine lv_goto (tgt := 15) hx hb dX1_init_40 (by decide) ?_
  refine lv_iload_n hx hb dX1_init_15 rfl (lv_at hl 0 rfl) ?_
  refine lv_aload_n hx hb dX1_init_16 rfl (lv_at hl 1 rfl) ?_
  refine w_get (C := RX1) (T := TX1) (N := 3) (ci := 1) (v := .ref x_1) hx hb hts hin1 hown hK hP 0 (by decide) rfl rfl 0 (by decide) (hts (.fieldLink RX1 11 "MixedBlocks$History" "ring" "[LMixedBlocks$State;") (List.mem_of_getElem? (i := 5) rfl)) (fun _ h9 => h9) rfl dX1_init_17 ?_
  refine w_alenq (v := 6) hx hb hK hB_1 0 (by decide) 2 rfl rfl rfl dX1_init_20 ?_
  refine lv_icmp_ge (tgt := 43) hx hb dX1_init_21 (by decide) (fun h7 => absurd h7 (by decide)) (fun _ => ?_)
  refine lv_aload_n hx hb dX1_init_24 rfl (lv_at hl 1 rfl) ?_
  refine w_get (C := RX1) (T := TX1) (N := 3) (ci := 1) (v := .ref x_1) hx hb hts hin1 hown hK hP 0 (by decide) rfl rfl 0 (by decide) (hts (.fieldLink RX1 11 "MixedBlocks$History" "ring" "[LMixedBlocks$State;") (List.mem_of_getElem? (i := 5) rfl)) (fun _ h9 => h9) rfl dX1_init_25 ?_
  refine lv_iload_n hx hb dX1_init_28 rfl (lv_at hl 0 rfl) ?_
  obtain ⟨x_5, hx_5⟩ : ∃ x : Nat, x = H_48.size := ⟨_, rfl⟩
  have hl_hP_5 : ∀ j, j < 1 → (fun _ => a) j < x_5 := by rw [hx_5]; exact (fun j hj => hP.lt hj)
  have hl_hB_1_5 : ∀ j, j < 1 → (fun _ => x_1) j < x_5 := by rw [hx_5]; exact (fun j hj => hB_1.lt hj)
  have hl_hR_2_5 : ∀ j, j < 12 → g_2 j < x_5 := by rw [hx_5]; exact (stT_lt hR_2)
  have hl_hR_3_5 : ∀ j, j < 12 → g_3 j < x_5 := by rw [hx_5]; exact (stT_lt hR_3)
  have hl_hR_4_5 : ∀ j, j < 12 → g_4 j < x_5 := by rw [hx_5]; exact (stT_lt hR_4)
  have hsz_5 : s.heap.size ≤ x_5 := by rw [hx_5]; exact hS.1
  refine w_newo (C := RX4) (T := TX4) (N := 4) (ci := 4) (fs := [.int 0, .null, .int 0, .null]) hx hb hts hin4 tyX4 tyX4_ok hown (hts (.classLink RX1 9 RX4) (List.mem_of_getElem? (i := 4) rfl)) (hts (.instantiable RX4 4) (List.mem_of_getElem? (i := 6) rfl)) (hts (.initialized RX4) (List.mem_of_getElem? (i := 7) rfl)) hK hS rfl (by decide +kernel) (Nat.le_of_ble_eq_true rfl) (Nat.le_of_ble_eq_true rfl) dX1_init_29 (fun H_59 hB_5 hz_5 ho_5 hS => ?_)
  rw [← hx_5] at hB_5 hz_5
  rw [show Value.ref H_48.size = Value.ref x_5 from by rw [hx_5]]
  have hP := hP.keep (fun j hj => ho_5 _ (by rw [← hx_5]; exact hl_hP_5 j hj))
  have hB_1 := hB_1.keep (fun j hj => ho_5 _ (by rw [← hx_5]; exact hl_hB_1_5 j hj))
  have hR_2 := hR_2.keep (fun j hj => ho_5 _ (by rw [← hx_5]; exact hl_hR_2_5 j hj))
  have hR_3 := hR_3.keep (fun j hj => ho_5 _ (by rw [← hx_5]; exact hl_hR_3_5 j hj))
  have hR_4 := hR_4.keep (fun j hj => ho_5 _ (by rw [← hx_5]; exact hl_hR_4_5 j hj))
  have hlo_hB_5 : ∀ j, j < 1 → x_5 ≤ (fun _ => x_5) j := fun _ _ => Nat.le_refl _
  refine lv_dup hx hb dX1_init_32 rfl ?_
  have hy_hP_5 : ∀ j, j < 1 → ¬ cAt x_5 H_59.size ((fun _ => a) j) := fun j hj h7 => by have h8 := hl_hP_5 j hj; rcases h7 with h7 | h7 <;> omega
  have hy_hB_1_5 : ∀ j, j < 1 → ¬ cAt x_5 H_59.size ((fun _ => x_1) j) := fun j hj h7 => by have h8 := hl_hB_1_5 j hj; rcases h7 with h7 | h7 <;> omega
  have hy_hR_2_5 : ∀ j, j < 12 → ¬ cAt x_5 H_59.size (g_2 j) := fun j hj h7 => by have h8 := hl_hR_2_5 j hj; rcases h7 with h7 | h7 <;> omega
  have hy_hR_3_5 : ∀ j, j < 12 → ¬ cAt x_5 H_59.size (g_3 j) := fun j hj h7 => by have h8 := hl_hR_3_5 j hj; rcases h7 with h7 | h7 <;> omega
  have hy_hR_4_5 : ∀ j, j < 12 → ¬ cAt x_5 H_59.size (g_4 j) := fun j hj h7 => by have h8 := hl_hR_4_5 j hj; rcases h7 with h7 | h7 <;> omega
  have hFc : ∀ q, cAt x_5 H_59.size q → cAt a s.heap.size q := fun q h7 => Or.inr (by rcases h7 with h7 | h7 <;> omega)
  refine va_callv (va_runI (As := []) (rest := [.ref x_5, .int 3, .ref x_1]) ⟨hx, hb, hml, hown, hts⟩ (c_X4_init l E x_5 H_59.size) (cwI 0 hts gX1_init_X4_init rfl rfl rfl (hts (.initialized RX4) (List.mem_of_getElem? (i := 7) rfl)) (hts (.methodLink RX1 17 yX4_init) (List.mem_of_getElem? (i := 10) rfl)) (hts (.instanceMethod yX4_init) (List.mem_of_getElem? (i := 11) rfl)) rfl (by decide +kernel) ⟨Nat.le_of_ble_eq_true rfl, Nat.le_of_ble_eq_true rfl⟩) ⟨wCq.blind, fun U hU hW => wCq.go hB_5 hK hRX3 hRX4 hU hW⟩ rfl rfl hl.1 rfl (lv_room (Nat.le_of_ble_eq_true rfl)) dX1_init_33 ⟨Nat.le_of_ble_eq_true rfl, Nat.le_of_ble_eq_true rfl⟩) hS (fun q _ h => hFc q h) hFc (fun u t H_61 locs ht hvm hw hB hz1 hk1 hS => ?_)
  rw [ht] at hB
  have hP := hP.keep (fun j hj => hk1 _ (Nat.lt_of_lt_of_le (hl_hP_5 j hj) (by omega)) (hy_hP_5 j hj))
  have hB_1 := hB_1.keep (fun j hj => hk1 _ (Nat.lt_of_lt_of_le (hl_hB_1_5 j hj) (by omega)) (hy_hB_1_5 j hj))
  have hR_2 := hR_2.keep (fun j hj => hk1 _ (Nat.lt_of_lt_of_le (hl_hR_2_5 j hj) (by omega)) (hy_hR_2_5 j hj))
  have hR_3 := hR_3.keep (fun j hj => hk1 _ (Nat.lt_of_lt_of_le (hl_hR_3_5 j hj) (by omega)) (hy_hR_3_5 j hj))
  have hR_4 := hR_4.keep (fun j hj => hk1 _ (Nat.lt_of_lt_of_le (hl_hR_4_5 j hj) (by omega)) (hy_hR_4_5 j hj))
  obtain ⟨g_5, hg0_5, hge_5, hgI_5, hR_5⟩ := hB
  have hlo_hR_5 : ∀ j, j < 12 → x_5 ≤ g_5 j := fun j hj => (Nat.eq_zero_or_pos j).elim (fun h7 => by rw [h7, hg0_5]; exact Nat.le_refl _) (fun h7 => by have h8 := hge_5 j h7 hj; omega)
  rw [← hg0_5]
  have hPI := hR_5.1
  refine w_astq1 (r := (RX4, TX4, 4)) (ci := 4) hx hb hK hB_1 (Or.inr hsz_1) hS 2 rfl hPI 0 (by decide) rfl rfl (i := 3) (by unfold vp_in; decide) dX1_init_36 (fun H_62 locs hB_1 hz_p62 hO_p62 hS => ?_)
  have hP := hP.keep (fun j hj => hO_p62 _ (by have := hl_hP_1 j hj; exact Nat.ne_of_lt this))
  have hR_2 := hR_2.keep (fun j hj => hO_p62 _ (by have h8 := hlo_hR_2 j hj; have h9 := hl_hB_1_2 0 (by decide); exact Nat.ne_of_gt (Nat.lt_of_lt_of_le h9 h8)))
  have hR_3 := hR_3.keep (fun j hj => hO_p62 _ (by have h8 := hlo_hR_3 j hj; have h9 := hl_hB_1_3 0 (by decide); exact Nat.ne_of_gt (Nat.lt_of_lt_of_le h9 h8)))
  have hR_4 := hR_4.keep (fun j hj => hO_p62 _ (by have h8 := hlo_hR_4 j hj; have h9 := hl_hB_1_4 0 (by decide); exact Nat.ne_of_gt (Nat.lt_of_lt_of_le h9 h8)))
  have hR_5 := hR_5.keep (fun j hj => hO_p62 _ (by have h8 := hlo_hR_5 j hj; have h9 := hl_hB_1_5 0 (by decide); exact Nat.ne_of_gt (Nat.lt_of_lt_of_le h9 h8)))
  refine lv_iinc (v := 4) (lv' := [(1, .int 4), (0, .ref a)]) hx hb dX1_init_37 hl (k := 0) rfl (by decide) (by decide) rfl (fun ls hl => ?_)
  refine lv_goto (tgt := 15) hx hb dX1_init_40 (by decide) ?_
  refine lv_iload_n hx hb dX1_init_15 rfl (lv_at hl 0 rfl) ?_
  refine lv_aload_n hx hb dX1_init_16 rfl (lv_at hl 1 rfl) ?_
  refine w_get (C := RX1) (T := TX1) (N := 3) (ci := 1) (v := .ref x_1) hx hb hts hin1 hown hK hP 0 (by decide) rfl rfl 0 (by decide) (hts (.fieldLink RX1 11 "MixedBlocks$History" "ring" "[LMixedBlocks$State;") (List.mem_of_getElem? (i := 5) rfl)) (fun _ h9 => h9) rfl dX1_init_17 ?_
  refine w_alenq (v := 6) hx hb hK hB_1 0 (by decide) 2 rfl rfl rfl dX1_init_20 ?_
  refine lv_icmp_ge (tgt := 43) hx hb dX1_init_21 (by decide) (fun h7 => absurd h7 (by decide)) (fun _ => ?_)
  refine lv_aload_n hx hb dX1_init_24 rfl (lv_at hl 1 rfl) ?_
  refine w_get (C := RX1) (T := TX1) (N := 3) (ci := 1) (v := .ref x_1) hx hb hts hin1 hown hK hP 0 (by decide) rfl rfl 0 (by decide) (hts (.fieldLink RX1 11 "MixedBlocks$History" "ring" "[LMixedBlocks$State;") (List.mem_of_getElem? (i := 5) rfl)) (fun _ h9 => h9) rfl dX1_init_25 ?_
  refine lv_iload_n hx hb dX1_init_28 rfl (lv_at hl 0 rfl) ?_
  obtain ⟨x_6, hx_6⟩ : ∃ x : Nat, x = H_62.size := ⟨_, rfl⟩
  have hl_hP_6 : ∀ j, j < 1 → (fun _ => a) j < x_6 := by rw [hx_6]; exact (fun j hj => hP.lt hj)
  have hl_hB_1_6 : ∀ j, j < 1 → (fun _ => x_1) j < x_6 := by rw [hx_6]; exact (fun j hj => hB_1.lt hj)
  have hl_hR_2_6 : ∀ j, j < 12 → g_2 j < x_6 := by rw [hx_6]; exact (stT_lt hR_2)
  have hl_hR_3_6 : ∀ j, j < 12 → g_3 j < x_6 := by rw [hx_6]; exact (stT_lt hR_3)
  have hl_hR_4_6 : ∀ j, j < 12 → g_4 j < x_6 := by rw [hx_6]; exact (stT_lt hR_4)
  have hl_hR_5_6 : ∀ j, j < 12 → g_5 j < x_6 := by rw [hx_6]; exact (stT_lt hR_5)
  have hsz_6 : s.heap.size ≤ x_6 := by rw [hx_6]; exact hS.1
  refine w_newo (C := RX4) (T := TX4) (N := 4) (ci := 4) (fs := [.int 0, .null, .int 0, .null]) hx hb hts hin4 tyX4 tyX4_ok hown (hts (.classLink RX1 9 RX4) (List.mem_of_getElem? (i := 4) rfl)) (hts (.instantiable RX4 4) (List.mem_of_getElem? (i := 6) rfl)) (hts (.initialized RX4) (List.mem_of_getElem? (i := 7) rfl)) hK hS rfl (by decide +kernel) (Nat.le_of_ble_eq_true rfl) (Nat.le_of_ble_eq_true rfl) dX1_init_29 (fun H_73 hB_6 hz_6 ho_6 hS => ?_)
  rw [← hx_6] at hB_6 hz_6
  rw [show Value.ref H_62.size = Value.ref x_6 from by rw [hx_6]]
  have hP := hP.keep (fun j hj => ho_6 _ (by rw [← hx_6]; exact hl_hP_6 j hj))
  have hB_1 := hB_1.keep (fun j hj => ho_6 _ (by rw [← hx_6]; exact hl_hB_1_6 j hj))
  have hR_2 := hR_2.keep (fun j hj => ho_6 _ (by rw [← hx_6]; exact hl_hR_2_6 j hj))
  have hR_3 := hR_3.keep (fun j hj => ho_6 _ (by rw [← hx_6]; exact hl_hR_3_6 j hj))
  have hR_4 := hR_4.keep (fun j hj => ho_6 _ (by rw [← hx_6]; exact hl_hR_4_6 j hj))
  have hR_5 := hR_5.keep (fun j hj => ho_6 _ (by rw [← hx_6]; exact hl_hR_5_6 j hj))
  have hlo_hB_6 : ∀ j, j < 1 → x_6 ≤ (fun _ => x_6) j := fun _ _ => Nat.le_refl _
  refine lv_dup hx hb dX1_init_32 rfl ?_
  have hy_hP_6 : ∀ j, j < 1 → ¬ cAt x_6 H_73.size ((fun _ => a) j) := fun j hj h7 => by have h8 := hl_hP_6 j hj; rcases h7 with h7 | h7 <;> omega
  have hy_hB_1_6 : ∀ j, j < 1 → ¬ cAt x_6 H_73.size ((fun _ => x_1) j) := fun j hj h7 => by have h8 := hl_hB_1_6 j hj; rcases h7 with h7 | h7 <;> omega
  have hy_hR_2_6 : ∀ j, j < 12 → ¬ cAt x_6 H_73.size (g_2 j) := fun j hj h7 => by have h8 := hl_hR_2_6 j hj; rcases h7 with h7 | h7 <;> omega
  have hy_hR_3_6 : ∀ j, j < 12 → ¬ cAt x_6 H_73.size (g_3 j) := fun j hj h7 => by have h8 := hl_hR_3_6 j hj; rcases h7 with h7 | h7 <;> omega
  have hy_hR_4_6 : ∀ j, j < 12 → ¬ cAt x_6 H_73.size (g_4 j) := fun j hj h7 => by have h8 := hl_hR_4_6 j hj; rcases h7 with h7 | h7 <;> omega
  have hy_hR_5_6 : ∀ j, j < 12 → ¬ cAt x_6 H_73.size (g_5 j) := fun j hj h7 => by have h8 := hl_hR_5_6 j hj; rcases h7 with h7 | h7 <;> omega
  have hFc : ∀ q, cAt x_6 H_73.size q → cAt a s.heap.size q := fun q h7 => Or.inr (by rcases h7 with h7 | h7 <;> omega)
  refine va_callv (va_runI (As := []) (rest := [.ref x_6, .int 4, .ref x_1]) ⟨hx, hb, hml, hown, hts⟩ (c_X4_init l E x_6 H_73.size) (cwI 0 hts gX1_init_X4_init rfl rfl rfl (hts (.initialized RX4) (List.mem_of_getElem? (i := 7) rfl)) (hts (.methodLink RX1 17 yX4_init) (List.mem_of_getElem? (i := 10) rfl)) (hts (.instanceMethod yX4_init) (List.mem_of_getElem? (i := 11) rfl)) rfl (by decide +kernel) ⟨Nat.le_of_ble_eq_true rfl, Nat.le_of_ble_eq_true rfl⟩) ⟨wCq.blind, fun U hU hW => wCq.go hB_6 hK hRX3 hRX4 hU hW⟩ rfl rfl hl.1 rfl (lv_room (Nat.le_of_ble_eq_true rfl)) dX1_init_33 ⟨Nat.le_of_ble_eq_true rfl, Nat.le_of_ble_eq_true rfl⟩) hS (fun q _ h => hFc q h) hFc (fun u t H_75 locs ht hvm hw hB hz1 hk1 hS => ?_)
  rw [ht] at hB
  have hP := hP.keep (fun j hj => hk1 _ (Nat.lt_of_lt_of_le (hl_hP_6 j hj) (by omega)) (hy_hP_6 j hj))
  have hB_1 := hB_1.keep (fun j hj => hk1 _ (Nat.lt_of_lt_of_le (hl_hB_1_6 j hj) (by omega)) (hy_hB_1_6 j hj))
  have hR_2 := hR_2.keep (fun j hj => hk1 _ (Nat.lt_of_lt_of_le (hl_hR_2_6 j hj) (by omega)) (hy_hR_2_6 j hj))
  have hR_3 := hR_3.keep (fun j hj => hk1 _ (Nat.lt_of_lt_of_le (hl_hR_3_6 j hj) (by omega)) (hy_hR_3_6 j hj))
  have hR_4 := hR_4.keep (fun j hj => hk1 _ (Nat.lt_of_lt_of_le (hl_hR_4_6 j hj) (by omega)) (hy_hR_4_6 j hj))
  have hR_5 := hR_5.keep (fun j hj => hk1 _ (Nat.lt_of_lt_of_le (hl_hR_5_6 j hj) (by omega)) (hy_hR_5_6 j hj))
  obtain ⟨g_6, hg0_6, hge_6, hgI_6, hR_6⟩ := hB
  have hlo_hR_6 : ∀ j, j < 12 → x_6 ≤ g_6 j := fun j hj => (Nat.eq_zero_or_pos j).elim (fun h7 => by rw [h7, hg0_6]; exact Nat.le_refl _) (fun h7 => by have h8 := hge_6 j h7 hj; omega)
  rw [← hg0_6]
  have hPI := hR_6.1
  refine w_astq1 (r := (RX4, TX4, 4)) (ci := 4) hx hb hK hB_1 (Or.inr hsz_1) hS 2 rfl hPI 0 (by decide) rfl rfl (i := 4) (by unfold vp_in; decide) dX1_init_36 (fun H_76 locs hB_1 hz_p76 hO_p76 hS => ?_)
  have hP := hP.keep (fun j hj => hO_p76 _ (by have := hl_hP_1 j hj; exact Nat.ne_of_lt this))
  have hR_2 := hR_2.keep (fun j hj => hO_p76 _ (by have h8 := hlo_hR_2 j hj; have h9 := hl_hB_1_2 0 (by decide); exact Nat.ne_of_gt (Nat.lt_of_lt_of_le h9 h8)))
  have hR_3 := hR_3.keep (fun j hj => hO_p76 _ (by have h8 := hlo_hR_3 j hj; have h9 := hl_hB_1_3 0 (by decide); exact Nat.ne_of_gt (Nat.lt_of_lt_of_le h9 h8)))
  have hR_4 := hR_4.keep (fun j hj => hO_p76 _ (by have h8 := hlo_hR_4 j hj; have h9 := hl_hB_1_4 0 (by decide); exact Nat.ne_of_gt (Nat.lt_of_lt_of_le h9 h8)))
  have hR_5 := hR_5.keep (fun j hj => hO_p76 _ (by have h8 := hlo_hR_5 j hj; have h9 := hl_hB_1_5 0 (by decide); exact Nat.ne_of_gt (Nat.lt_of_lt_of_le h9 h8)))
  have hR_6 := hR_6.keep (fun j hj => hO_p76 _ (by have h8 := hlo_hR_6 j hj; have h9 := hl_hB_1_6 0 (by decide); exact Nat.ne_of_gt (Nat.lt_of_lt_of_le h9 h8)))
  refine lv_iinc (v := 5) (lv' := [(1, .int 5), (0, .ref a)]) hx hb dX1_init_37 hl (k := 0) rfl (by decide) (by decide) rfl (fun ls hl => ?_)
  refine lv_goto (tgt := 15) hx hb dX1_init_40 (by decide) ?_
  refine lv_iload_n hx hb dX1_init_15 rfl (lv_at hl 0 rfl) ?_
  refine lv_aload_n hx hb dX1_init_16 rfl (lv_at hl 1 rfl) ?_
  refine w_get (C := RX1) (T := TX1) (N := 3) (ci := 1) (v := .ref x_1) hx hb hts hin1 hown hK hP 0 (by decide) rfl rfl 0 (by decide) (hts (.fieldLink RX1 11 "MixedBlocks$History" "ring" "[LMixedBlocks$State;") (List.mem_of_getElem? (i := 5) rfl)) (fun _ h9 => h9) rfl dX1_init_17 ?_
  refine w_alenq (v := 6) hx hb hK hB_1 0 (by decide) 2 rfl rfl rfl dX1_init_20 ?_
  refine lv_icmp_ge (tgt := 43) hx hb dX1_init_21 (by decide) (fun h7 => absurd h7 (by decide)) (fun _ => ?_)
  refine lv_aload_n hx hb dX1_init_24 rfl (lv_at hl 1 rfl) ?_
  refine w_get (C := RX1) (T := TX1) (N := 3) (ci := 1) (v := .ref x_1) hx hb hts hin1 hown hK hP 0 (by decide) rfl rfl 0 (by decide) (hts (.fieldLink RX1 11 "MixedBlocks$History" "ring" "[LMixedBlocks$State;") (List.mem_of_getElem? (i := 5) rfl)) (fun _ h9 => h9) rfl dX1_init_25 ?_
  refine lv_iload_n hx hb dX1_init_28 rfl (lv_at hl 0 rfl) ?_
  obtain ⟨x_7, hx_7⟩ : ∃ x : Nat, x = H_76.size := ⟨_, rfl⟩
  have hl_hP_7 : ∀ j, j < 1 → (fun _ => a) j < x_7 := by rw [hx_7]; exact (fun j hj => hP.lt hj)
  have hl_hB_1_7 : ∀ j, j < 1 → (fun _ => x_1) j < x_7 := by rw [hx_7]; exact (fun j hj => hB_1.lt hj)
  have hl_hR_2_7 : ∀ j, j < 12 → g_2 j < x_7 := by rw [hx_7]; exact (stT_lt hR_2)
  have hl_hR_3_7 : ∀ j, j < 12 → g_3 j < x_7 := by rw [hx_7]; exact (stT_lt hR_3)
  have hl_hR_4_7 : ∀ j, j < 12 → g_4 j < x_7 := by rw [hx_7]; exact (stT_lt hR_4)
  have hl_hR_5_7 : ∀ j, j < 12 → g_5 j < x_7 := by rw [hx_7]; exact (stT_lt hR_5)
  have hl_hR_6_7 : ∀ j, j < 12 → g_6 j < x_7 := by rw [hx_7]; exact (stT_lt hR_6)
  have hsz_7 : s.heap.size ≤ x_7 := by rw [hx_7]; exact hS.1
  refine w_newo (C := RX4) (T := TX4) (N := 4) (ci := 4) (fs := [.int 0, .null, .int 0, .null]) hx hb hts hin4 tyX4 tyX4_ok hown (hts (.classLink RX1 9 RX4) (List.mem_of_getElem? (i := 4) rfl)) (hts (.instantiable RX4 4) (List.mem_of_getElem? (i := 6) rfl)) (hts (.initialized RX4) (List.mem_of_getElem? (i := 7) rfl)) hK hS rfl (by decide +kernel) (Nat.le_of_ble_eq_true rfl) (Nat.le_of_ble_eq_true rfl) dX1_init_29 (fun H_87 hB_7 hz_7 ho_7 hS => ?_)
  rw [← hx_7] at hB_7 hz_7
  rw [show Value.ref H_76.size = Value.ref x_7 from by rw [hx_7]]
  have hP := hP.keep (fun j hj => ho_7 _ (by rw [← hx_7]; exact hl_hP_7 j hj))
  have hB_1 := hB_1.keep (fun j hj => ho_7 _ (by rw [← hx_7]; exact hl_hB_1_7 j hj))
  have hR_2 := hR_2.keep (fun j hj => ho_7 _ (by rw [← hx_7]; exact hl_hR_2_7 j hj))
  have hR_3 := hR_3.keep (fun j hj => ho_7 _ (by rw [← hx_7]; exact hl_hR_3_7 j hj))
  have hR_4 := hR_4.keep (fun j hj => ho_7 _ (by rw [← hx_7]; exact hl_hR_4_7 j hj))
  have hR_5 := hR_5.keep (fun j hj => ho_7 _ (by rw [← hx_7]; exact hl_hR_5_7 j hj))
  have hR_6 := hR_6.keep (fun j hj => ho_7 _ (by rw [← hx_7]; exact hl_hR_6_7 j hj))
  have hlo_hB_7 : ∀ j, j < 1 → x_7 ≤ (fun _ => x_7) j := fun _ _ => Nat.le_refl _
  refine lv_dup hx hb dX1_init_32 rfl ?_
  have hy_hP_7 : ∀ j, j < 1 → ¬ cAt x_7 H_87.size ((fun _ => a) j) := fun j hj h7 => by have h8 := hl_hP_7 j hj; rcases h7 with h7 | h7 <;> omega
  have hy_hB_1_7 : ∀ j, j < 1 → ¬ cAt x_7 H_87.size ((fun _ => x_1) j) := fun j hj h7 => by have h8 := hl_hB_1_7 j hj; rcases h7 with h7 | h7 <;> omega
  have hy_hR_2_7 : ∀ j, j < 12 → ¬ cAt x_7 H_87.size (g_2 j) := fun j hj h7 => by have h8 := hl_hR_2_7 j hj; rcases h7 with h7 | h7 <;> omega
  have hy_hR_3_7 : ∀ j, j < 12 → ¬ cAt x_7 H_87.size (g_3 j) := fun j hj h7 => by have h8 := hl_hR_3_7 j hj; rcases h7 with h7 | h7 <;> omega
  have hy_hR_4_7 : ∀ j, j < 12 → ¬ cAt x_7 H_87.size (g_4 j) := fun j hj h7 => by have h8 := hl_hR_4_7 j hj; rcases h7 with h7 | h7 <;> omega
  have hy_hR_5_7 : ∀ j, j < 12 → ¬ cAt x_7 H_87.size (g_5 j) := fun j hj h7 => by have h8 := hl_hR_5_7 j hj; rcases h7 with h7 | h7 <;> omega
  have hy_hR_6_7 : ∀ j, j < 12 → ¬ cAt x_7 H_87.size (g_6 j) := fun j hj h7 => by have h8 := hl_hR_6_7 j hj; rcases h7 with h7 | h7 <;> omega
  have hFc : ∀ q, cAt x_7 H_87.size q → cAt a s.heap.size q := fun q h7 => Or.inr (by rcases h7 with h7 | h7 <;> omega)
  refine va_callv (va_runI (As := []) (rest := [.ref x_7, .int 5, .ref x_1]) ⟨hx, hb, hml, hown, hts⟩ (c_X4_init l E x_7 H_87.size) (cwI 0 hts gX1_init_X4_init rfl rfl rfl (hts (.initialized RX4) (List.mem_of_getElem? (i := 7) rfl)) (hts (.methodLink RX1 17 yX4_init) (List.mem_of_getElem? (i := 10) rfl)) (hts (.instanceMethod yX4_init) (List.mem_of_getElem? (i := 11) rfl)) rfl (by decide +kernel) ⟨Nat.le_of_ble_eq_true rfl, Nat.le_of_ble_eq_true rfl⟩) ⟨wCq.blind, fun U hU hW => wCq.go hB_7 hK hRX3 hRX4 hU hW⟩ rfl rfl hl.1 rfl (lv_room (Nat.le_of_ble_eq_true rfl)) dX1_init_33 ⟨Nat.le_of_ble_eq_true rfl, Nat.le_of_ble_eq_true rfl⟩) hS (fun q _ h => hFc q h) hFc (fun u t H_89 locs ht hvm hw hB hz1 hk1 hS => ?_)
  rw [ht] at hB
  have hP := hP.keep (fun j hj => hk1 _ (Nat.lt_of_lt_of_le (hl_hP_7 j hj) (by omega)) (hy_hP_7 j hj))
  have hB_1 := hB_1.keep (fun j hj => hk1 _ (Nat.lt_of_lt_of_le (hl_hB_1_7 j hj) (by omega)) (hy_hB_1_7 j hj))
  have hR_2 := hR_2.keep (fun j hj => hk1 _ (Nat.lt_of_lt_of_le (hl_hR_2_7 j hj) (by omega)) (hy_hR_2_7 j hj))
  have hR_3 := hR_3.keep (fun j hj => hk1 _ (Nat.lt_of_lt_of_le (hl_hR_3_7 j hj) (by omega)) (hy_hR_3_7 j hj))
  have hR_4 := hR_4.keep (fun j hj => hk1 _ (Nat.lt_of_lt_of_le (hl_hR_4_7 j hj) (by omega)) (hy_hR_4_7 j hj))
  have hR_5 := hR_5.keep (fun j hj => hk1 _ (Nat.lt_of_lt_of_le (hl_hR_5_7 j hj) (by omega)) (hy_hR_5_7 j hj))
  have hR_6 := hR_6.keep (fun j hj => hk1 _ (Nat.lt_of_lt_of_le (hl_hR_6_7 j hj) (by omega)) (hy_hR_6_7 j hj))
  obtain ⟨g_7, hg0_7, hge_7, hgI_7, hR_7⟩ := hB
  have hlo_hR_7 : ∀ j, j < 12 → x_7 ≤ g_7 j := fun j hj => (Nat.eq_zero_or_pos j).elim (fun h7 => by rw [h7, hg0_7]; exact Nat.le_refl _) (fun h7 => by have h8 := hge_7 j h7 hj; omega)
  rw [← hg0_7]
  have hPI := hR_7.1
  refine w_astq1 (r := (RX4, TX4, 4)) (ci := 4) hx hb hK hB_1 (Or.inr hsz_1) hS 2 rfl hPI 0 (by decide) rfl rfl (i := 5) (by unfold vp_in; decide) dX1_init_36 (fun H_90 locs hB_1 hz_p90 hO_p90 hS => ?_)
  have hP := hP.keep (fun j hj => hO_p90 _ (by have := hl_hP_1 j hj; exact Nat.ne_of_lt this))
  have hR_2 := hR_2.keep (fun j hj => hO_p90 _ (by have h8 := hlo_hR_2 j hj; have h9 := hl_hB_1_2 0 (by decide); exact Nat.ne_of_gt (Nat.lt_of_lt_of_le h9 h8)))
  have hR_3 := hR_3.keep (fun j hj => hO_p90 _ (by have h8 := hlo_hR_3 j hj; have h9 := hl_hB_1_3 0 (by decide); exact Nat.ne_of_gt (Nat.lt_of_lt_of_le h9 h8)))
  have hR_4 := hR_4.keep (fun j hj => hO_p90 _ (by have h8 := hlo_hR_4 j hj; have h9 := hl_hB_1_4 0 (by decide); exact Nat.ne_of_gt (Nat.lt_of_lt_of_le h9 h8)))
  have hR_5 := hR_5.keep (fun j hj => hO_p90 _ (by have h8 := hlo_hR_5 j hj; have h9 := hl_hB_1_5 0 (by decide); exact Nat.ne_of_gt (Nat.lt_of_lt_of_le h9 h8)))
  have hR_6 := hR_6.keep (fun j hj => hO_p90 _ (by have h8 := hlo_hR_6 j hj; have h9 := hl_hB_1_6 0 (by decide); exact Nat.ne_of_gt (Nat.lt_of_lt_of_le h9 h8)))
  have hR_7 := hR_7.keep (fun j hj => hO_p90 _ (by have h8 := hlo_hR_7 j hj; have h9 := hl_hB_1_7 0 (by decide); exact Nat.ne_of_gt (Nat.lt_of_lt_of_le h9 h8)))
  refine lv_iinc (v := 6) (lv' := [(1, .int 6), (0, .ref a)]) hx hb dX1_init_37 hl (k := 0) rfl (by decide) (by decide) rfl (fun ls hl => ?_)
  refine lv_goto (tgt := 15) hx hb dX1_init_40 (by decide) ?_
  refine lv_iload_n hx hb dX1_init_15 rfl (lv_at hl 0 rfl) ?_
  refine lv_aload_n hx hb dX1_init_16 rfl (lv_at hl 1 rfl) ?_
  refine w_get (C := RX1) (T := TX1) (N := 3) (ci := 1) (v := .ref x_1) hx hb hts hin1 hown hK hP 0 (by decide) rfl rfl 0 (by decide) (hts (.fieldLink RX1 11 "MixedBlocks$History" "ring" "[LMixedBlocks$State;") (List.mem_of_getElem? (i := 5) rfl)) (fun _ h9 => h9) rfl dX1_init_17 ?_
  refine w_alenq (v := 6) hx hb hK hB_1 0 (by decide) 2 rfl rfl rfl dX1_init_20 ?_
  refine lv_icmp_ge (tgt := 43) hx hb dX1_init_21 (by decide) (fun _ => ?_) (fun h7 => absurd (show (6 : Int32) ≤ 6 by decide) h7)
  refine lv_aload_n hx hb dX1_init_43 rfl (lv_at hl 1 rfl) ?_
  refine lv_iconst (v := 0) hx hb dX1_init_44 (by decide) ?_
  refine w_put1 (C := RX1) (T := TX1) (N := 3) (ci := 1) (v := .int 0) (ty := .int) hx hb hts hin1 tyX1 tyX1_ok nmX1 hown hK hP hAa hS rfl 1 (by decide) (hts (.fieldLink RX1 18 "MixedBlocks$History" "oldest" "I") (List.mem_of_getElem? (i := 8) rfl)) (fun _ h9 => h9) rfl (by decide +kernel) rfl rfl (Nat.le_of_ble_eq_true rfl) dX1_init_45 (fun H_100 locs hP hz_p100 hO_p100 hS => ?_)
  have hB_1 := hB_1.keep (fun j hj => hO_p100 _ (by have h8 := hlo_hB_1 j hj; have h9 := hl_hP_1 0 (by decide); exact Nat.ne_of_gt (Nat.lt_of_lt_of_le h9 h8)))
  have hR_2 := hR_2.keep (fun j hj => hO_p100 _ (by have h8 := hlo_hR_2 j hj; have h9 := hl_hP_2 0 (by decide); exact Nat.ne_of_gt (Nat.lt_of_lt_of_le h9 h8)))
  have hR_3 := hR_3.keep (fun j hj => hO_p100 _ (by have h8 := hlo_hR_3 j hj; have h9 := hl_hP_3 0 (by decide); exact Nat.ne_of_gt (Nat.lt_of_lt_of_le h9 h8)))
  have hR_4 := hR_4.keep (fun j hj => hO_p100 _ (by have h8 := hlo_hR_4 j hj; have h9 := hl_hP_4 0 (by decide); exact Nat.ne_of_gt (Nat.lt_of_lt_of_le h9 h8)))
  have hR_5 := hR_5.keep (fun j hj => hO_p100 _ (by have h8 := hlo_hR_5 j hj; have h9 := hl_hP_5 0 (by decide); exact Nat.ne_of_gt (Nat.lt_of_lt_of_le h9 h8)))
  have hR_6 := hR_6.keep (fun j hj => hO_p100 _ (by have h8 := hlo_hR_6 j hj; have h9 := hl_hP_6 0 (by decide); exact Nat.ne_of_gt (Nat.lt_of_lt_of_le h9 h8)))
  have hR_7 := hR_7.keep (fun j hj => hO_p100 _ (by have h8 := hlo_hR_7 j hj; have h9 := hl_hP_7 0 (by decide); exact Nat.ne_of_gt (Nat.lt_of_lt_of_le h9 h8)))
  refine lv_aload_n hx hb dX1_init_48 rfl (lv_at hl 1 rfl) ?_
  refine lv_iconst (v := 0) hx hb dX1_init_49 (by decide) ?_
  refine w_put1 (C := RX1) (T := TX1) (N := 3) (ci := 1) (v := .int 0) (ty := .int) hx hb hts hin1 tyX1 tyX1_ok nmX1 hown hK hP hAa hS rfl 2 (by decide) (hts (.fieldLink RX1 22 "MixedBlocks$History" "kept" "I") (List.mem_of_getElem? (i := 9) rfl)) (fun _ h9 => h9) rfl (by decide +kernel) rfl rfl (Nat.le_of_ble_eq_true rfl) dX1_init_50 (fun H_103 locs hP hz_p103 hO_p103 hS => ?_)
  have hB_1 := hB_1.keep (fun j hj => hO_p103 _ (by have h8 := hlo_hB_1 j hj; have h9 := hl_hP_1 0 (by decide); exact Nat.ne_of_gt (Nat.lt_of_lt_of_le h9 h8)))
  have hR_2 := hR_2.keep (fun j hj => hO_p103 _ (by have h8 := hlo_hR_2 j hj; have h9 := hl_hP_2 0 (by decide); exact Nat.ne_of_gt (Nat.lt_of_lt_of_le h9 h8)))
  have hR_3 := hR_3.keep (fun j hj => hO_p103 _ (by have h8 := hlo_hR_3 j hj; have h9 := hl_hP_3 0 (by decide); exact Nat.ne_of_gt (Nat.lt_of_lt_of_le h9 h8)))
  have hR_4 := hR_4.keep (fun j hj => hO_p103 _ (by have h8 := hlo_hR_4 j hj; have h9 := hl_hP_4 0 (by decide); exact Nat.ne_of_gt (Nat.lt_of_lt_of_le h9 h8)))
  have hR_5 := hR_5.keep (fun j hj => hO_p103 _ (by have h8 := hlo_hR_5 j hj; have h9 := hl_hP_5 0 (by decide); exact Nat.ne_of_gt (Nat.lt_of_lt_of_le h9 h8)))
  have hR_6 := hR_6.keep (fun j hj => hO_p103 _ (by have h8 := hlo_hR_6 j hj; have h9 := hl_hP_6 0 (by decide); exact Nat.ne_of_gt (Nat.lt_of_lt_of_le h9 h8)))
  have hR_7 := hR_7.keep (fun j hj => hO_p103 _ (by have h8 := hlo_hR_7 j hj; have h9 := hl_hP_7 0 (by decide); exact Nat.ne_of_gt (Nat.lt_of_lt_of_le h9 h8)))
  exact W.vret hx hb hr (fun t ht hW => ⟨⟨(), rfl, trivial, (by show wB a s.heap.size 74 (fun g => wP E 2 g (hiF E g 0 0) t.heap ∧ hiS E g (fun _ => ss0) t.heap); rw [ht]; exact hi_glue (u := (fun i => match i with | 0 => g_2 | 1 => g_3 | 2 => g_4 | 3 => g_5 | 4 => g_6 | _ => g_7)) (M := (fun i => match i with | 0 => x_2 | 1 => x_3 | 2 => x_4 | 3 => x_5 | 4 => x_6 | 5 => x_7 | _ => H_103.size)) hP hB_1 (fun i hi => match i, hi with | 0, _ => rfl | 1, _ => rfl | 2, _ => rfl | 3, _ => rfl | 4, _ => rfl | 5, _ => rfl | n + 6, h7 => absurd h7 (by omega)) (fun i hi => match i, hi with | 0, _ => hR_2 | 1, _ => hR_3 | 2, _ => hR_4 | 3, _ => hR_5 | 4, _ => hR_6 | 5, _ => hR_7 | n + 6, h7 => absurd h7 (by omega)) (fun i hi => match i, hi with | 0, _ => hgI_2 | 1, _ => hgI_3 | 2, _ => hgI_4 | 3, _ => hgI_5 | 4, _ => hgI_6 | 5, _ => hgI_7 | n + 6, h7 => absurd h7 (by omega)) (hl_hP_1 0 (by decide)) (hl_hB_1_2 0 (by decide)) (fun i hi => match i, hi with | 0, _ => fun j hj => ⟨hlo_hR_2 j hj, hl_hR_2_3 j hj⟩ | 1, _ => fun j hj => ⟨hlo_hR_3 j hj, hl_hR_3_4 j hj⟩ | 2, _ => fun j hj => ⟨hlo_hR_4 j hj, hl_hR_4_5 j hj⟩ | 3, _ => fun j hj => ⟨hlo_hR_5 j hj, hl_hR_5_6 j hj⟩ | 4, _ => fun j hj => ⟨hlo_hR_6 j hj, hl_hR_6_7 j hj⟩ | 5, _ => fun j hj => ⟨hlo_hR_7 j hj, stT_lt hR_7 j hj⟩ | n + 6, h7 => absurd h7 (by omega)) hsz_1)⟩, hS.F ht⟩) hS.2.2 dX1_init_53
