set_option maxHeartbeats 4000000 in
set_option maxRecDepth 100000 in
theorem c_X5_copyRow (l : Launch) (E : wE) (g : Nat → Nat) (z : Nat) (x y : Nat → Int32) (hz : z < 2 ^ 31) : Met l yX5_copyRow wsX5_copyRow ({ frames := 1, cells := 0, slots := 0, locals := 64 }) (va_Pc [.ref ((g 0)), .ref ((g 1))] (wS E 2 g (wP E 2 g (cpF E z x y)))) (va_Qv (fun (_ : Unit) => True) (fun _ t => wP E 2 g (cpF E z x (va_cpy x y 0 0 z)) (t.heap)) (wF 2 g)) 0 0 (wF 2 g) := by
  refine Met.ofW (cc := cX5_copyRow) (maxL := 2) (ret := none) (by decide) rfl ?_
  intro p e s m args below meth c s₁ B hml hv
  obtain ⟨rfl, hP, hK, hI⟩ := hv
  have hx := B.exec
  have hb := B.bytes
  have hr := B.returns
  have hts := atoms_spec (ws := wsX5_copyRow) B.pre
  have hown : s.vm.findClass RX5 = some m.cls := findClass_of_methodNamed B.named
  have hlocks := B.notSynchronized
  have hS : va_S (wF 2 g) s.heap s.heap [] := va_S.rf
  have hA : ∀ k, k < 2 → (wF 2 g) (g k) := wF_in
  have hl := lv_entry ([.ref ((g 0)), .ref ((g 1))]) (n := 2) (Nat.le_of_ble_eq_true rfl)
  rw [lg_entry_eq]
  generalize (lg_sl ([.ref ((g 0)), .ref ((g 1))]) ++ List.replicate (2 - (lg_sl ([.ref ((g 0)), .ref ((g 1))])).length) Slot.unset).toArray = ls at hl ⊢
  have hl : lv_has ls 2 [(0, .ref ((g 0))), (1, .ref ((g 1)))] := hl
  refine lv_aload_n hx hb dX5_copyRow_0 rfl (lv_at hl 0 rfl) ?_
  refine lv_iconst (v := 0) hx hb dX5_copyRow_1 (by decide) ?_
  refine lv_aload_n hx hb dX5_copyRow_2 rfl (lv_at hl 1 rfl) ?_
  refine lv_iconst (v := 0) hx hb dX5_copyRow_3 (by decide) ?_
  refine lv_aload_n hx hb dX5_copyRow_4 rfl (lv_at hl 0 rfl) ?_
  refine w_alen (v := nI z) hx hb hK hP 0 (by decide) rfl rfl dX5_copyRow_5 ?_
  refine lv_aload_n hx hb dX5_copyRow_6 rfl (lv_at hl 1 rfl) ?_
  refine w_alen (v := nI z) hx hb hK hP 1 (by decide) rfl rfl dX5_copyRow_7 ?_
  refine va_mmin hx hb (hml.trans hl.1.symm) hown (hts (.methodLink RX5 229 Lib.Math.min.name) (List.mem_of_getElem? (i := 1) rfl)) (hts (.static Lib.Math.min.name) (List.mem_of_getElem? (i := 2) rfl)) (hts (.initialized "java/lang/Math") (List.mem_of_getElem? (i := 3) rfl)) (hts (.code Lib.Math.min.name Lib.Math.min.code 2 (some .int)) (List.mem_of_getElem? (i := 4) rfl)) (Nat.le_of_ble_eq_true rfl) (Nat.le_of_ble_eq_true rfl) (Nat.zero_le _) (Nat.zero_le _) dX5_copyRow_8 ?_
  rw [if_neg (show ¬ nI z < nI z by apply Int32.lt_irrefl)]
  refine va_copyi (ty := .int) (f := x) (g := y) (n0 := z) (n1 := z) hx hb (hml.trans hl.1.symm) hown (hts (.methodLink RX5 235 arraycopyName) (List.mem_of_getElem? (i := 5) rfl)) (hts (.native arraycopyName) (List.mem_of_getElem? (i := 6) rfl)) (hts (.static arraycopyName) (List.mem_of_getElem? (i := 7) rfl)) (hts (.initialized "java/lang/System") (List.mem_of_getElem? (i := 8) rfl)) hK.1 hP (wd_D hI hA) hS 0 1 0 0 (wd_get (by decide)) (wd_get (by decide)) rfl rfl rfl (by decide) (by decide) (nI_pos hz) (by rw [nI_clamp hz]; exact Nat.le_of_eq (Nat.zero_add z)) (by rw [nI_clamp hz]; exact Nat.le_of_eq (Nat.zero_add z)) (fun _ _ => rfl) (Nat.le_of_ble_eq_true rfl) (Nat.le_of_ble_eq_true rfl) dX5_copyRow_11 (fun H1 locs1 hP _ hS => ?_)
  have hP : wP E 2 g (cpF E z x (va_cpy x y 0 0 z)) H1 := by
    rw [nI_clamp hz] at hP
    have e9 : (wd 2 g (cpF E z x y)).set 1 (g 1, .inl (E.2.1, z, .inl (va_cpy x y 0 0 z))) = wd 2 g (cpF E z x (va_cpy x y 0 0 z)) := wd_set rfl cp_ne1
    have hP : va_P E.1 vwCl ((wd 2 g (cpF E z x y)).set 1 (g 1, .inl (E.2.1, z, .inl (va_cpy x y 0 0 z)))) H1 := hP
    rw [e9] at hP
    exact hP
  exact W.vret hx hb hr (fun t ht hW => ⟨⟨(), rfl, trivial, (by show wP E 2 g (cpF E z x (va_cpy x y 0 0 z)) t.heap; rw [ht]; exact hP)⟩, hS.F ht⟩) hS.2.2 dX5_copyRow_14
