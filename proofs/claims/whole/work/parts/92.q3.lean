/-! the use of a receiver, the digest -/
section
variable {B : Nat} {z : SS} {y : MS} {u : Nat}
theorem a_use3 (h : RZ B z y) (hu : u < 3) (hB : B ≤ 65536) : shF (z.2.2.2 u).2.2.2.2.1 (z.2.2.2 u).2.2.2.2.2.1 (z.2.2.2 u).2.2.2.2.2.2 = usF (y.2.2.2 u).2.2.1 (y.2.2.2 u).2.2.2.1 (y.2.2.2 u).2.2.2.2.1 ∧ bOK (usF (y.2.2.2 u).2.2.1 (y.2.2.2 u).2.2.2.1 (y.2.2.2 u).2.2.2.2.1) ∧ bcF (shF (z.2.2.2 u).2.2.2.2.1 (z.2.2.2 u).2.2.2.2.2.1 (z.2.2.2 u).2.2.2.2.2.2) = bmF (usF (y.2.2.2 u).2.2.1 (y.2.2.2 u).2.2.2.1 (y.2.2.2 u).2.2.2.2.1) := by
  obtain ⟨vn, h1, hr, h3, h4, h5, h6, h7, h8⟩ := h
  obtain ⟨_, ⟨_, _, _, e4, e5, e6⟩, _, G, T, O, c1, c2, c3, c4, c5⟩ := h8 u hu
  rw [e4, e5, e6, c1, c2, c3]
  exact use_ok (by omega) (by omega)
theorem a_use (h : RZ B z y) (hu : u < 3) (hB : B ≤ 65536) : shF (z.2.2.2 u).2.2.2.2.1 (z.2.2.2 u).2.2.2.2.2.1 (z.2.2.2 u).2.2.2.2.2.2 = usF (y.2.2.2 u).2.2.1 (y.2.2.2 u).2.2.2.1 (y.2.2.2 u).2.2.2.2.1 := (a_use3 h hu hB).1
theorem a_bok (h : RZ B z y) (hB : B ≤ 65536) : ∀ i, i < 3 → bOK (usF (y.2.2.2 i).2.2.1 (y.2.2.2 i).2.2.2.1 (y.2.2.2 i).2.2.2.2.1) := fun _ hi => (a_use3 h hi hB).2.1
theorem a_hst (h : RZ B z y) (hu : u < 3) (x : Int64) : hstF z (z.2.2.2 u) x = drC y.1 y.2.1 (y.2.2.2 u) x := by
  have hn : ∀ j, numF z.1 (z.2.2.2 u) j = numM y.1 (y.2.2.2 u) j := a_num h hu
  have hk : ∀ b, b < 12 → knownF (z.2.2.2 u) b = knM y.2.1 (y.2.2.2 u).2.1 b := fun b hb => a_known h hu hb
  obtain ⟨vn, h1, hr, h3, h4, h5, h6, h7, h8⟩ := h
  obtain ⟨_, e2, e3, _⟩ := h8 u hu
  have hW := fun w hw => (e3.2.1 w hw).1
  unfold hstF drC drB drA
  rw [show (z.2.2.2 u).2.2.2.1 = encW vn (y.2.2.2 u).2.2.2.2.2 from e2.2.2.1, encW_len, hsW_mk h1 hr h7 hW _ 0 _ (by omega), h3, h4]
  congr 1
  rw [hsN_cg (f := fun j => numF y.1 (z.2.2.2 u) j) (g := fun j => numM y.1 (y.2.2.2 u) j) 9 0 x (fun j _ _ => by rw [← h3]; exact hn j |>.trans (by rw [h3]))]
  exact hsN_cg _ 0 _ (fun b _ hb => hk b (by omega))
theorem a_hg (h : RZ B z y) (hu : u < 3) (hB : B ≤ 65536) (x : Int64) : hgF z (z.2.2.2 u) (hstF z (z.2.2.2 u) x) = drM y.1 y.2.1 (y.2.2.2 u) x := by
  unfold hgF drM
  rw [a_hst h hu, a_got0 h hu, a_got1 h hu, a_helps h hu, a_needs h hu, a_needs h hu, a_ifel h hu, (a_use3 h hu hB).2.2]
theorem a_digest (h : RZ B z y) (hB : B ≤ 65536) (ke ln : Nat) (bf : Nat → Int32) : dgF z ke ln bf = dmF y.1 y.2.1 y.2.2.1 y.2.2.2 ke ln bf := by
  have hA : dgA z ke = dmA y.1 y.2.1 y.2.2.1 y.2.2.2 ke := hsN_cg _ _ _ (fun j _ _ => count_mk h ke j)
  have hB2 : dgB z ke = dmB y.1 y.2.1 y.2.2.1 y.2.2.2 ke := by
    unfold dgB dmB
    rw [hA, a_size h, a_va h]
  have hC : dgC z ke = dmC y.1 y.2.1 y.2.2.1 y.2.2.2 ke := by
    unfold dgC dmC
    rw [hB2]
    exact rcN_cg 3 0 _ (fun i x _ hi => a_hg h (by omega) hB x)
  unfold dgF dmF
  rw [hC]
end
