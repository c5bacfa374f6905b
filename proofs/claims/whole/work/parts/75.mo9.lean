/-- a receiver of the reference as new -/
def mr0 : MR := (false, 0, 0, 0, 0, [])
def ms0 : MS := (8, (fun _ => 0), 0, fun _ => mr0)
def g6 (a b c d e f : Nat) : Nat → Nat := fun k => match k with
  | 0 => a
  | 1 => b
  | 2 => c
  | 3 => d
  | 4 => e
  | _ => f
theorem g6_le {a b c d e f sz : Nat} (h1 : sz ≤ b) (h2 : sz ≤ c) (h3 : sz ≤ d) (h4 : sz ≤ e) (h5 : sz ≤ f) : ∀ k, 0 < k → k < 6 → sz ≤ g6 a b c d e f k := by
  intro k h7 h8
  match k, h7, h8 with
  | 1, _, _ => exact h1
  | 2, _, _ => exact h2
  | 3, _, _ => exact h3
  | 4, _, _ => exact h4
  | 5, _, _ => exact h5
theorem wI_6 {a b c d e f : Nat} (h1 : a < b) (h2 : b < c) (h3 : c < d) (h4 : d < e) (h5 : e < f) : wI 6 (g6 a b c d e f) := wI_inc (by
  intro i j hij hj
  match i, j, hij, hj with
  | 0, 1, _, _ => exact h1
  | 0, 2, _, _ => show a < c; omega
  | 0, 3, _, _ => show a < d; omega
  | 0, 4, _, _ => show a < e; omega
  | 0, 5, _, _ => show a < f; omega
  | 1, 2, _, _ => exact h2
  | 1, 3, _, _ => show b < d; omega
  | 1, 4, _, _ => show b < e; omega
  | 1, 5, _, _ => show b < f; omega
  | 2, 3, _, _ => exact h3
  | 2, 4, _, _ => show c < e; omega
  | 2, 5, _, _ => show c < f; omega
  | 3, 4, _, _ => exact h4
  | 3, 5, _, _ => show d < f; omega
  | 4, 5, _, _ => exact h5
  | i + 5, 5, hij, _ => exact absurd hij (by omega)
  | i, 0, hij, _ => exact absurd hij (by omega)
  | i + 1, 1, hij, _ => exact absurd hij (by omega)
  | i + 2, 2, hij, _ => exact absurd hij (by omega)
  | i + 3, 3, hij, _ => exact absurd hij (by omega)
  | i + 4, 4, hij, _ => exact absurd hij (by omega)
  | i, j + 6, _, hj => exact absurd hj (by omega))
theorem wP6 {E : wE} {a b c d e f : Nat} {x0 x1 x2 x3 x4 x5 : va_E} {H : Heap} {F : Nat → va_E} (h0 : wP E 1 (fun _ => a) (fun _ => x0) H) (h1 : wP E 1 (fun _ => b) (fun _ => x1) H) (h2 : wP E 1 (fun _ => c) (fun _ => x2) H) (h3 : wP E 1 (fun _ => d) (fun _ => x3) H) (h4 : wP E 1 (fun _ => e) (fun _ => x4) H) (h5 : wP E 1 (fun _ => f) (fun _ => x5) H) (e0 : F 0 = x0) (e1 : F 1 = x1) (e2 : F 2 = x2) (e3 : F 3 = x3) (e4 : F 4 = x4) (e5 : F 5 = x5) : wP E 6 (g6 a b c d e f) F H := by
  refine wP_at.mpr fun k hk => ?_
  match k, hk with
  | 0, _ => rw [e0]; exact wP_at.mp h0 0 (by decide)
  | 1, _ => rw [e1]; exact wP_at.mp h1 0 (by decide)
  | 2, _ => rw [e2]; exact wP_at.mp h2 0 (by decide)
  | 3, _ => rw [e3]; exact wP_at.mp h3 0 (by decide)
  | 4, _ => rw [e4]; exact wP_at.mp h4 0 (by decide)
  | 5, _ => rw [e5]; exact wP_at.mp h5 0 (by decide)
theorem mdE_new : upd (fun _ => 0) (0 : Int32).toNatClampNeg 8 = mdE 8 (fun _ => 0) 0 (fun _ _ => 0) := by
  funext i
  show (if i = 0 then (8 : Int32) else 0) = _
  unfold mdE
  by_cases h : i = 0
  · rw [if_pos h, if_pos h]; rfl
  · rw [if_neg h, if_neg h, ite_self, ite_self]
theorem rvP_new : rvP mr0 (fun _ => 0) := by
  refine ⟨fun _ => 0, ?_, fun k hk => absurd hk (Nat.not_lt_zero k), Nat.zero_le _, by decide, fun k hk => absurd hk (Nat.not_lt_zero k)⟩
  funext j
  match j with
  | 0 => rfl
  | 1 => rfl
  | 2 => rfl
  | 3 => rfl
  | 4 => rfl
  | 5 => rfl
  | _ + 6 => rfl
set_option maxHeartbeats 4000000 in
set_option maxRecDepth 100000 in
theorem c_X6_init (l : Launch) (E : wE) (a sz : Nat) : Met l yX6_init wsX6_init ({ frames := 1, cells := 5, slots := 830, locals := 12 }) (va_Pc [.ref a] (wC E 6 [.int 0, .null, .null, .null, .int 0, .null, .int 0, .null, .int 0, .int 0, .long 0] a sz)) (va_Qv (fun (_ : Unit) => True) (fun _ t => wB a sz 6 (fun g => MOB E g 0 0 (fun _ => 0) 8 (fun _ => 0) 0 (fun _ => mr0) 0 (fun _ => ms0) t.heap)) (cAt a sz)) 5 830 (cAt a sz) := by
  refine Met.ofW (cc := cX6_init) (maxL := 1) (ret := none) (by decide) rfl ?_
  intro p e s m args below meth c s₁ B hml hv
  obtain ⟨rfl, hsz, hP, hK⟩ := hv
  have hx := B.exec
  have hb := B.bytes
  have hr := B.returns
  have hts := atoms_spec (ws := wsX6_init) B.pre
  have hown : s.vm.findClass RX6 = some m.cls := findClass_of_methodNamed B.named
  have hlocks := B.notSynchronized
  have hnm : meth.name = "<init>" := (name_of_methodNamed B.named B.method).1
  subst hsz
  have hA : ∀ q, s.heap.size ≤ q → cAt a s.heap.size q := fun q h => Or.inr h
  have hAa : cAt a s.heap.size a := Or.inl rfl
  have hS : va_S (cAt a s.heap.size) s.heap s.heap [] := va_S.rf
  have hz0 : s.heap.size ≤ s.heap.size := Nat.le_refl _
  have hin6 : ∀ w ∈ wsX60, w ∈ wsX6_init := by decide +kernel
  have hl := lv_entry ([.ref a]) (n := 1) (Nat.le_of_ble_eq_true rfl)
  rw [lg_entry_eq]
  generalize (lg_sl ([.ref a]) ++ List.replicate (1 - (lg_sl ([.ref a])).length) Slot.unset).toArray = ls at hl ⊢
  have hl : lv_has ls 1 [(0, .ref a)] := hl
  refine lv_aload_n hx hb dX6_init_0 rfl (lv_at hl 0 rfl) ?_
  refine W.objInit hx hb hown (hts (.methodLink RX6 1 objectInit) (List.mem_of_getElem? (i := 1) rfl)) (hts (.instanceMethod objectInit) (List.mem_of_getElem? (i := 2) rfl)) (hts (.code objectInit ⟨#[0xb1]⟩ 1 none) (List.mem_of_getElem? (i := 3) rfl)) rfl (by rw [hml]; exact hl.1) rfl dX6_init_1 (Nat.le_of_ble_eq_true rfl) (Nat.le_of_ble_eq_true rfl) ?_
  refine W.eq (g2 := F0 m 4 ls []) rfl ?_
  refine lv_aload_n hx hb dX6_init_4 rfl (lv_at hl 0 rfl) ?_
  refine lv_bipush (v := 104) hx hb dX6_init_5 (by decide) ?_
  have hlt_1 : a < s.heap.size := hP.lt (k := 0) (by decide)
  refine w_newi hx hb (hts (.arrayClass .int) (List.mem_of_getElem? (i := 4) rfl)) hK hS 104 (by decide) (by decide) (by decide) (Nat.le_of_ble_eq_true rfl) (Nat.le_of_ble_eq_true rfl) dX6_init_7 (fun H_7 hB_1 hz_1 ho_1 hS => ?_)
  have hP := hP.keep (fun _ _ => ho_1 _ hlt_1)
  have hs_1 : s.heap.size ≤ s.heap.size := hz0
  have hz0 : s.heap.size ≤ H_7.size := by omega
  refine w_putF1 (C := RX6) (T := TX6) (N := 11) (ci := 6) (v := .ref s.heap.size) (ty := (.array .int)) hx hb hts hin6 tyX6 tyX6_ok nmX6 hown hK hP hAa hS rfl 1 (by decide) (hts (.fieldLink RX6 7 "MixedBlocksModel" "s" "[I") (List.mem_of_getElem? (i := 5) rfl)) (fun _ h9 => h9) rfl hnm rfl (by decide +kernel) rfl rfl (Nat.le_of_ble_eq_true rfl) dX6_init_9 (fun H_9 locs hP hz_9 hO_9 hS => ?_)
  have hB_1 := hB_1.keep (fun _ _ => hO_9 _ (Nat.ne_of_gt hlt_1))
  have hz0 : s.heap.size ≤ H_9.size := by omega
  refine lv_aload_n hx hb dX6_init_12 rfl (lv_at hl 0 rfl) ?_
  refine lv_bipush (v := 30) hx hb dX6_init_13 (by decide) ?_
  have hlt_2 : a < H_9.size := hP.lt (k := 0) (by decide)
  have hl_hB_1_2 := hB_1.lt (k := 0) (by decide)
  refine w_newi hx hb (hts (.arrayClass .int) (List.mem_of_getElem? (i := 4) rfl)) hK hS 30 (by decide) (by decide) (by decide) (Nat.le_of_ble_eq_true rfl) (Nat.le_of_ble_eq_true rfl) dX6_init_15 (fun H_15 hB_2 hz_2 ho_2 hS => ?_)
  have hP := hP.keep (fun _ _ => ho_2 _ hlt_2)
  have hB_1 := hB_1.keep (fun _ _ => ho_2 _ hl_hB_1_2)
  have hs_2 : s.heap.size ≤ H_9.size := hz0
  have hz0 : s.heap.size ≤ H_15.size := by omega
  refine w_putF1 (C := RX6) (T := TX6) (N := 11) (ci := 6) (v := .ref H_9.size) (ty := (.array .int)) hx hb hts hin6 tyX6 tyX6_ok nmX6 hown hK hP hAa hS rfl 2 (by decide) (hts (.fieldLink RX6 13 "MixedBlocksModel" "aside" "[I") (List.mem_of_getElem? (i := 6) rfl)) (fun _ h9 => h9) rfl hnm rfl (by decide +kernel) rfl rfl (Nat.le_of_ble_eq_true rfl) dX6_init_17 (fun H_17 locs hP hz_17 hO_17 hS => ?_)
  have hB_1 := hB_1.keep (fun _ _ => hO_17 _ (Nat.ne_of_gt hlt_1))
  have hB_2 := hB_2.keep (fun _ _ => hO_17 _ (Nat.ne_of_gt hlt_2))
  have hz0 : s.heap.size ≤ H_17.size := by omega
  refine lv_aload_n hx hb dX6_init_20 rfl (lv_at hl 0 rfl) ?_
  refine lv_sipush (v := 624) hx hb dX6_init_21 (by decide) ?_
  have hlt_3 : a < H_17.size := hP.lt (k := 0) (by decide)
  have hl_hB_1_3 := hB_1.lt (k := 0) (by decide)
  have hl_hB_2_3 := hB_2.lt (k := 0) (by decide)
  refine w_newi hx hb (hts (.arrayClass .int) (List.mem_of_getElem? (i := 4) rfl)) hK hS 624 (by decide) (by decide) (by decide) (Nat.le_of_ble_eq_true rfl) (Nat.le_of_ble_eq_true rfl) dX6_init_24 (fun H_24 hB_3 hz_3 ho_3 hS => ?_)
  have hP := hP.keep (fun _ _ => ho_3 _ hlt_3)
  have hB_1 := hB_1.keep (fun _ _ => ho_3 _ hl_hB_1_3)
  have hB_2 := hB_2.keep (fun _ _ => ho_3 _ hl_hB_2_3)
  have hs_3 : s.heap.size ≤ H_17.size := hz0
  have hz0 : s.heap.size ≤ H_24.size := by omega
  refine w_putF1 (C := RX6) (T := TX6) (N := 11) (ci := 6) (v := .ref H_17.size) (ty := (.array .int)) hx hb hts hin6 tyX6 tyX6_ok nmX6 hown hK hP hAa hS rfl 3 (by decide) (hts (.fieldLink RX6 16 "MixedBlocksModel" "saved" "[I") (List.mem_of_getElem? (i := 7) rfl)) (fun _ h9 => h9) rfl hnm rfl (by decide +kernel) rfl rfl (Nat.le_of_ble_eq_true rfl) dX6_init_26 (fun H_26 locs hP hz_26 hO_26 hS => ?_)
  have hB_1 := hB_1.keep (fun _ _ => hO_26 _ (Nat.ne_of_gt hlt_1))
  have hB_2 := hB_2.keep (fun _ _ => hO_26 _ (Nat.ne_of_gt hlt_2))
  have hB_3 := hB_3.keep (fun _ _ => hO_26 _ (Nat.ne_of_gt hlt_3))
  have hz0 : s.heap.size ≤ H_26.size := by omega
  refine lv_aload_n hx hb dX6_init_29 rfl (lv_at hl 0 rfl) ?_
  refine lv_bipush (v := 60) hx hb dX6_init_30 (by decide) ?_
  have hlt_4 : a < H_26.size := hP.lt (k := 0) (by decide)
  have hl_hB_1_4 := hB_1.lt (k := 0) (by decide)
  have hl_hB_2_4 := hB_2.lt (k := 0) (by decide)
  have hl_hB_3_4 := hB_3.lt (k := 0) (by decide)
  refine w_newi hx hb (hts (.arrayClass .int) (List.mem_of_getElem? (i := 4) rfl)) hK hS 60 (by decide) (by decide) (by decide) (Nat.le_of_ble_eq_true rfl) (Nat.le_of_ble_eq_true rfl) dX6_init_32 (fun H_32 hB_4 hz_4 ho_4 hS => ?_)
  have hP := hP.keep (fun _ _ => ho_4 _ hlt_4)
  have hB_1 := hB_1.keep (fun _ _ => ho_4 _ hl_hB_1_4)
  have hB_2 := hB_2.keep (fun _ _ => ho_4 _ hl_hB_2_4)
  have hB_3 := hB_3.keep (fun _ _ => ho_4 _ hl_hB_3_4)
  have hs_4 : s.heap.size ≤ H_26.size := hz0
  have hz0 : s.heap.size ≤ H_32.size := by omega
  refine w_putF1 (C := RX6) (T := TX6) (N := 11) (ci := 6) (v := .ref H_26.size) (ty := (.array .int)) hx hb hts hin6 tyX6 tyX6_ok nmX6 hown hK hP hAa hS rfl 5 (by decide) (hts (.fieldLink RX6 19 "MixedBlocksModel" "text" "[I") (List.mem_of_getElem? (i := 8) rfl)) (fun _ h9 => h9) rfl hnm rfl (by decide +kernel) rfl rfl (Nat.le_of_ble_eq_true rfl) dX6_init_34 (fun H_34 locs hP hz_34 hO_34 hS => ?_)
  have hB_1 := hB_1.keep (fun _ _ => hO_34 _ (Nat.ne_of_gt hlt_1))
  have hB_2 := hB_2.keep (fun _ _ => hO_34 _ (Nat.ne_of_gt hlt_2))
  have hB_3 := hB_3.keep (fun _ _ => hO_34 _ (Nat.ne_of_gt hlt_3))
  have hB_4 := hB_4.keep (fun _ _ => hO_34 _ (Nat.ne_of_gt hlt_4))
  have hz0 : s.heap.size ≤ H_34.size := by omega
  refine lv_aload_n hx hb dX6_init_37 rfl (lv_at hl 0 rfl) ?_
  refine lv_bipush (v := 12) hx hb dX6_init_38 (by decide) ?_
  have hlt_5 : a < H_34.size := hP.lt (k := 0) (by decide)
  have hl_hB_1_5 := hB_1.lt (k := 0) (by decide)
  have hl_hB_2_5 := hB_2.lt (k := 0) (by decide)
  have hl_hB_3_5 := hB_3.lt (k := 0) (by decide)
  have hl_hB_4_5 := hB_4.lt (k := 0) (by decide)
  refine w_newi hx hb (hts (.arrayClass .int) (List.mem_of_getElem? (i := 4) rfl)) hK hS 12 (by decide) (by decide) (by decide) (Nat.le_of_ble_eq_true rfl) (Nat.le_of_ble_eq_true rfl) dX6_init_40 (fun H_40 hB_5 hz_5 ho_5 hS => ?_)
  have hP := hP.keep (fun _ _ => ho_5 _ hlt_5)
  have hB_1 := hB_1.keep (fun _ _ => ho_5 _ hl_hB_1_5)
  have hB_2 := hB_2.keep (fun _ _ => ho_5 _ hl_hB_2_5)
  have hB_3 := hB_3.keep (fun _ _ => ho_5 _ hl_hB_3_5)
  have hB_4 := hB_4.keep (fun _ _ => ho_5 _ hl_hB_4_5)
  have hs_5 : s.heap.size ≤ H_34.size := hz0
  have hz0 : s.heap.size ≤ H_40.size := by omega
  refine w_putF1 (C := RX6) (T := TX6) (N := 11) (ci := 6) (v := .ref H_34.size) (ty := (.array .int)) hx hb hts hin6 tyX6 tyX6_ok nmX6 hown hK hP hAa hS rfl 7 (by decide) (hts (.fieldLink RX6 22 "MixedBlocksModel" "row" "[I") (List.mem_of_getElem? (i := 9) rfl)) (fun _ h9 => h9) rfl hnm rfl (by decide +kernel) rfl rfl (Nat.le_of_ble_eq_true rfl) dX6_init_42 (fun H_42 locs hP hz_42 hO_42 hS => ?_)
  have hB_1 := hB_1.keep (fun _ _ => hO_42 _ (Nat.ne_of_gt hlt_1))
  have hB_2 := hB_2.keep (fun _ _ => hO_42 _ (Nat.ne_of_gt hlt_2))
  have hB_3 := hB_3.keep (fun _ _ => hO_42 _ (Nat.ne_of_gt hlt_3))
  have hB_4 := hB_4.keep (fun _ _ => hO_42 _ (Nat.ne_of_gt hlt_4))
  have hB_5 := hB_5.keep (fun _ _ => hO_42 _ (Nat.ne_of_gt hlt_5))
  have hz0 : s.heap.size ≤ H_42.size := by omega
  refine lv_aload_n hx hb dX6_init_45 rfl (lv_at hl 0 rfl) ?_
  refine w_get (C := RX6) (T := TX6) (N := 11) (ci := 6) (v := .ref s.heap.size) hx hb hts hin6 hown hK hP 0 (by decide) rfl rfl 1 (by decide) (hts (.fieldLink RX6 7 "MixedBlocksModel" "s" "[I") (List.mem_of_getElem? (i := 5) rfl)) (fun _ h9 => h9) rfl dX6_init_46 ?_
  refine lv_iconst (v := 0) hx hb dX6_init_49 (by decide) ?_
  refine lv_bipush (v := 8) hx hb dX6_init_50 (by decide) ?_
  refine w_iastO hx hb hK hB_1 (fun i j hi hj _ => by omega) (fun _ _ => hA _ hs_1) hS 0 (by decide) rfl (vp_in_nI (n := 0) (by decide) (by decide)) dX6_init_52 (fun _ => .inl (E.2.1, 104, .inl (upd (fun _ => 0) (0 : Int32).toNatClampNeg 8))) rfl (fun j hj h => absurd (by omega) h) (fun H_52 locs hB_1 hO hS => ?_)
  have hP := hP.keep (fun _ _ => hO _ (Nat.ne_of_lt hlt_1))
  have hB_2 := hB_2.keep (fun _ _ => hO _ (Nat.ne_of_gt hl_hB_1_2))
  have hB_3 := hB_3.keep (fun _ _ => hO _ (Nat.ne_of_gt hl_hB_1_3))
  have hB_4 := hB_4.keep (fun _ _ => hO _ (Nat.ne_of_gt hl_hB_1_4))
  have hB_5 := hB_5.keep (fun _ _ => hO _ (Nat.ne_of_gt hl_hB_1_5))
  exact W.vret hx hb hr (fun t ht hW => ⟨⟨(), rfl, trivial, (by show wB a s.heap.size 6 (fun g => MOB E g 0 0 (fun _ => 0) 8 (fun _ => 0) 0 (fun _ => mr0) 0 (fun _ => ms0) t.heap); rw [ht]; exact ⟨g6 a s.heap.size H_9.size H_17.size H_26.size H_34.size, rfl, g6_le hs_1 hs_2 hs_3 hs_4 hs_5, wI_6 hlt_1 hl_hB_1_2 hl_hB_2_3 hl_hB_3_4 hl_hB_4_5, (fun _ => 0), 0, false, 0, ⟨(fun _ => 0), (fun _ => 0), (fun _ _ => 0), wP6 hP hB_1 hB_2 hB_3 hB_4 hB_5 rfl (by rw [mdE_new]; rfl) rfl rfl rfl rfl, fun i hi => rvP_new⟩, (fun i hi => absurd hi (Nat.not_lt_zero i)), by decide, by decide, by decide, by decide⟩)⟩, hS.F ht⟩) hS.2.2 dX6_init_53
