/-! the class where nothing is thrown: what its calls answer, by the masks -/
theorem vx_sure {l : Launch} {y : MethodName} {ws : List Cond} {rm : Room} {Pc : Array Value → State → Prop} {Qc Qd : Array Value → State → Outcome → State → Prop} {XC : String → State → State → Prop} {mc ms : Nat} {free : Addr → Prop} (h : vx_Met l y ws rm Pc Qc XC mc ms free) (hX : ∀ E s t, XC E s t → False) (hQ : ∀ a s o t, Qc a s o t → Qd a s o t) : Met l y ws rm Pc Qd mc ms free := by
  refine MetFree.mono h (fun _ _ hp => hp) (fun _ _ _ _ _ hk => hk) (fun a s o t _ hq => ?_)
  rcases hq with ⟨h1, h2⟩ | ⟨q, _, hT⟩
  · exact ⟨hQ a s o t h1, h2⟩
  · obtain ⟨E, ce, L, hx, _⟩ := hT
    exact (hX E s t hx).elim
theorem qi_mono {S S2 : Type} {post : Int32 → S → Prop} {post2 : Int32 → S2 → Prop} {B : S → State → Prop} {B2 : S2 → State → Prop} {A : Nat → Prop} (h : ∀ r u t, post r u → B u t → ∃ v, post2 r v ∧ B2 v t) : ∀ a s o t, va_Qi post B A a s o t → va_Qi post2 B2 A a s o t := by
  rintro a s o t ⟨⟨r, u, h1, h2, h3⟩, h4⟩
  obtain ⟨v, h5, h6⟩ := h r u t h2 h3
  exact ⟨⟨r, v, h1, h5, h6⟩, h4⟩
theorem qd_mono {S S2 : Type} {post : UInt64 → S → Prop} {post2 : UInt64 → S2 → Prop} {B : S → State → Prop} {B2 : S2 → State → Prop} {A : Nat → Prop} (h : ∀ r u t, post r u → B u t → ∃ v, post2 r v ∧ B2 v t) : ∀ a s o t, va_Qd post B A a s o t → va_Qd post2 B2 A a s o t := by
  rintro a s o t ⟨⟨r, u, h1, h2, h3⟩, h4⟩
  obtain ⟨v, h5, h6⟩ := h r u t h2 h3
  exact ⟨⟨r, v, h1, h5, h6⟩, h4⟩
theorem n_size (l : Launch) (hst : l.stackTraces = false) (E : wE) (g : Nat → Nat) (ln : Nat) (bf : Nat → Int32) (z : SS) (ke : Nat) (hs : Nat → SS) {n : Nat} (hn2 : 2 ≤ n) (hn12 : n ≤ 12) : Met l yX5_size wsX5_size ({ frames := 6, cells := 1, slots := 6, locals := 151 }) (va_Pc [.ref (g 0), .int (nI n)] (wSx E 94 g (wF 94 g) (MB E g ln bf z ke hs))) (va_Qi (fun (r : Int32) (_ : Unit) => r = nI z.1) (fun _ t => MB E g ln bf (sizeZ z n) (kpK ke) (pushH ke hs z) t.heap) (wF 94 g)) 1 6 (wF 94 g) := by
  refine vx_sure (c_X5_size l hst E g ln bf z ke hs (nI n)) (fun Ex s t hX => ?_) (qi_mono fun r v t h1 h2 => ⟨(), ?_, ?_⟩)
  · obtain ⟨_, _, h9, _⟩ := hX
    exact h9.2.1 ⟨(nI_leI (a := 2) (b := n) (by omega) (by omega)).mpr hn2, (nI_leI (a := n) (b := 12) (by omega) (by omega)).mpr hn12⟩
  · exact h1
  · rw [nI_clamp (n := n) (by omega)] at h2
    exact h2.2
theorem n_write (l : Launch) (hst : l.stackTraces = false) (E : wE) (g : Nat → Nat) (ln : Nat) (bf : Nat → Int32) (z : SS) (ke : Nat) (hs : Nat → SS) {b v : Nat} (hz12 : z.1 ≤ 12) (hb : b < z.1) (hv : v < 65536) : Met l yX5_write wsX5_write ({ frames := 7, cells := 2, slots := 12, locals := 151 }) (va_Pc [.ref (g 0), .int (nI b), .int (nI v)] (wSx E 94 g (wF 94 g) (MB E g ln bf z ke hs))) (va_Qi (fun (r : Int32) (_ : Unit) => r = z.2.1 b) (fun _ t => MB E g ln bf (writeZ z b (nI v)) (kpK ke) (pushH ke hs z) t.heap) (wF 94 g)) 2 12 (wF 94 g) := by
  refine vx_sure (c_X5_write l hst E g ln bf z ke hs (nI b) (nI v)) (fun Ex s t hX => ?_) (qi_mono fun r v t h1 h2 => ⟨(), ?_, ?_⟩)
  · obtain ⟨_, _, h9, _⟩ := hX
    exact h9.1.elim (fun q => q.2 (vp_in_nI hb (by omega))) (fun q => q.2.2 (vp_in_nI hv (by decide)))
  · rw [nI_clamp (n := b) (by omega)] at h1
    exact h1
  · rw [nI_clamp (n := b) (by omega)] at h2
    exact h2.2
theorem n_listen (l : Launch) (hst : l.stackTraces = false) (E : wE) (g : Nat → Nat) (ln : Nat) (bf : Nat → Int32) (z : SS) (ke : Nat) (hs : Nat → SS) {u : Nat} (hu : u < 3) (bb : Bool) : Met l yX5_listen wsX5_listen ({ frames := 7, cells := 1, slots := 6, locals := 151 }) (va_Pc [.ref (g 0), .int (nI u), .int (bI bb)] (wSx E 94 g (wF 94 g) (MB E g ln bf z ke hs))) (va_Qi (fun (r : Int32) (_ : Unit) => r = bI (z.2.2.2 u).1) (fun _ t => MB E g ln bf (recvZ z u (bb, (z.2.2.2 u).2)) (kpK ke) (pushH ke hs z) t.heap) (wF 94 g)) 1 6 (wF 94 g) := by
  refine vx_sure (c_X5_listen l hst E g ln bf z ke hs (nI u) bb) (fun Ex s t hX => ?_) (qi_mono fun r v t h1 h2 => ⟨(), ?_, ?_⟩)
  · obtain ⟨_, _, h9, _⟩ := hX
    exact h9.1.2 (vp_in_nI hu (by decide))
  · rw [nI_clamp (n := u) (by omega)] at h1
    exact h1
  · rw [nI_clamp (n := u) (by omega)] at h2
    exact h2.2
theorem n_forget (l : Launch) (hst : l.stackTraces = false) (E : wE) (g : Nat → Nat) (ln : Nat) (bf : Nat → Int32) (z : SS) (ke : Nat) (hs : Nat → SS) {B : Nat} {y : MS} (hz : RZ B z y) {u : Nat} (hu : u < 3) : Met l yX5_forget wsX5_forget ({ frames := 7, cells := 1, slots := 6, locals := 151 }) (va_Pc [.ref (g 0), .int (nI u)] (wSx E 94 g (wF 94 g) (MB E g ln bf z ke hs))) (va_Qi (fun (r : Int32) (_ : Unit) => r = nI (pc (y.2.2.2 u).2.1)) (fun _ t => MB E g ln bf (recvZ z u (fgR (z.2.2.2 u))) (kpK ke) (pushH ke hs z) t.heap) (wF 94 g)) 1 6 (wF 94 g) := by
  refine vx_sure (c_X5_forget l hst E g ln bf z ke hs (nI u)) (fun Ex s t hX => ?_) (qi_mono fun r v t h1 h2 => ⟨(), ?_, ?_⟩)
  · obtain ⟨_, _, h9, _⟩ := hX
    exact h9.1.2 (vp_in_nI hu (by decide))
  · rw [nI_clamp (n := u) (by omega)] at h1
    exact h1.trans (a_forget hz hu)
  · rw [nI_clamp (n := u) (by omega)] at h2
    exact h2.2
theorem n_send (l : Launch) (hst : l.stackTraces = false) (E : wE) (g : Nat → Nat) (ln : Nat) (bf : Nat → Int32) (z : SS) (ke : Nat) (hs : Nat → SS) {B : Nat} {y : MS} (hz : RZ B z y) {k : Nat} (hk : k < 10000) : Met l yX5_send wsX5_send ({ frames := 7, cells := 1, slots := 6, locals := 151 }) (va_Pc [.ref (g 0), .int (nI k)] (wSx E 94 g (wF 94 g) (MB E g ln bf z ke hs))) (va_Qi (fun (r : Int32) (_ : Unit) => r = sumM (mskM y.1 k) y.2.2.2 3) (fun _ t => MB E g ln bf (sendZ z k) (kpK ke) (pushH ke hs z) t.heap) (wF 94 g)) 1 6 (wF 94 g) := by
  refine vx_sure (c_X5_send l hst E g ln bf z ke hs (nI k)) (fun Ex s t hX => ?_) (qi_mono fun r v t h1 h2 => ⟨(), ?_, ?_⟩)
  · obtain ⟨_, _, h9, _⟩ := hX
    exact h9.1.2 (vp_in_nI hk (by decide))
  · rw [nI_clamp (n := k) (by omega)] at h1
    exact h1.trans (send_mk hz k).2
  · rw [nI_clamp (n := k) (by omega)] at h2
    exact h2.2
theorem n_eliminate (l : Launch) (hst : l.stackTraces = false) (E : wE) (g : Nat → Nat) (ln : Nat) (bf : Nat → Int32) (z : SS) (ke : Nat) (hs : Nat → SS) {B : Nat} {y : MS} (hz : RZ B z y) {u : Nat} (hu : u < 3) : Met l yX5_eliminate wsX5_eliminate ({ frames := 7, cells := 1, slots := 6, locals := 151 }) (va_Pc [.ref (g 0), .int (nI u)] (wSx E 94 g (wF 94 g) (MB E g ln bf z ke hs))) (va_Qi (fun (r : Int32) (_ : Unit) => r = nI (pc (alnM (redW (y.2.2.2 u).2.2.2.2.2)))) (fun _ t => MB E g ln bf (recvZ z u (elimR (z.2.2.2 u))) (kpK ke) (pushH ke hs z) t.heap) (wF 94 g)) 1 6 (wF 94 g) := by
  refine vx_sure (c_X5_eliminate l hst E g ln bf z ke hs (nI u)) (fun Ex s t hX => ?_) (qi_mono fun r v t h1 h2 => ⟨(), ?_, ?_⟩)
  · obtain ⟨_, _, h9, _⟩ := hX
    exact h9.1.2 (vp_in_nI hu (by decide))
  · rw [nI_clamp (n := u) (by omega)] at h1
    exact h1.trans (a_ifel hz hu)
  · rw [nI_clamp (n := u) (by omega)] at h2
    exact h2.2
theorem n_undo (l : Launch) (hst : l.stackTraces = false) (E : wE) (g : Nat → Nat) (ln : Nat) (bf : Nat → Int32) (z : SS) (ke : Nat) (hs : Nat → SS) (hke : 0 < ke) : Met l yX5_undo wsX5_undo ({ frames := 6, cells := 1, slots := 6, locals := 150 }) (va_Pc [.ref (g 0)] (wSx E 94 g (wF 94 g) (MB E g ln bf z ke hs))) (va_Qi (fun (r : Int32) (_ : Unit) => r = nI (ke - 1)) (fun _ t => MB E g ln bf (hs (ke - 1)) (ke - 1) hs t.heap) (wF 94 g)) 1 6 (wF 94 g) := by
  refine vx_sure (c_X5_undo l hst E g ln bf z ke hs) (fun Ex s t hX => ?_) (qi_mono fun r v t h1 h2 => ⟨(), ?_, ?_⟩)
  · obtain ⟨_, _, h9, _⟩ := hX
    exact h9.1.2 hke
  · exact h1
  · exact h2.2
theorem n_mix0 (l : Launch) (hst : l.stackTraces = false) (E : wE) (g : Nat → Nat) (ln : Nat) (bf : Nat → Int32) (z : SS) (ke : Nat) (hs : Nat → SS) {B : Nat} {y : MS} (hz : RZ B z y) {k : Nat} (hk : k < 10000) : Met l yX5_mix wsX5_mix ({ frames := 7, cells := 2, slots := 12, locals := 126 }) (va_Pc [.ref (g 0), .int (nI k), .int (nI 0)] (wSx E 94 g (wF 94 g) (MB E g ln bf z ke hs))) (va_Qi (fun (r : Int32) (_ : Unit) => r = nI (pc (mskM y.1 k))) (fun _ t => MB E g ln bf z ke hs t.heap) (wF 94 g)) 2 12 (wF 94 g) := by
  refine vx_sure (c_X5_mix l hst E g ln bf z ke hs (nI k) (nI 0)) (fun Ex s t hX => ?_) (qi_mono fun r v t h1 h2 => ⟨(), ?_, ?_⟩)
  · obtain ⟨_, _, h9, _⟩ := hX
    exact h9.1.2 ⟨vp_in_nI hk (by decide), vp_in_nI (N := 3) (by decide) (by decide)⟩
  · rw [nI_clamp (n := k) (by omega), nI_clamp (n := 0) (by omega)] at h1
    exact h1.trans (a_mix hz k 0)
  · exact h2.2
theorem n_mix1 (l : Launch) (hst : l.stackTraces = false) (E : wE) (g : Nat → Nat) (ln : Nat) (bf : Nat → Int32) (z : SS) (ke : Nat) (hs : Nat → SS) {B : Nat} {y : MS} (hz : RZ B z y) {k : Nat} (hk : k < 10000) : Met l yX5_mix wsX5_mix ({ frames := 7, cells := 2, slots := 12, locals := 126 }) (va_Pc [.ref (g 0), .int (nI k), .int (nI 1)] (wSx E 94 g (wF 94 g) (MB E g ln bf z ke hs))) (va_Qi (fun (r : Int32) (_ : Unit) => r = nI (mskM y.1 k)) (fun _ t => MB E g ln bf z ke hs t.heap) (wF 94 g)) 2 12 (wF 94 g) := by
  refine vx_sure (c_X5_mix l hst E g ln bf z ke hs (nI k) (nI 1)) (fun Ex s t hX => ?_) (qi_mono fun r v t h1 h2 => ⟨(), ?_, ?_⟩)
  · obtain ⟨_, _, h9, _⟩ := hX
    exact h9.1.2 ⟨vp_in_nI hk (by decide), vp_in_nI (N := 3) (by decide) (by decide)⟩
  · rw [nI_clamp (n := k) (by omega), nI_clamp (n := 1) (by omega)] at h1
    exact h1.trans (a_mix hz k 1)
  · exact h2.2
theorem n_mix2 (l : Launch) (hst : l.stackTraces = false) (E : wE) (g : Nat → Nat) (ln : Nat) (bf : Nat → Int32) (z : SS) (ke : Nat) (hs : Nat → SS) {B : Nat} {y : MS} (hz : RZ B z y) {k : Nat} (hk : k < 10000) : Met l yX5_mix wsX5_mix ({ frames := 7, cells := 2, slots := 12, locals := 126 }) (va_Pc [.ref (g 0), .int (nI k), .int (nI 2)] (wSx E 94 g (wF 94 g) (MB E g ln bf z ke hs))) (va_Qi (fun (r : Int32) (_ : Unit) => r = vlM y.1 y.2.1 (mskM y.1 k)) (fun _ t => MB E g ln bf z ke hs t.heap) (wF 94 g)) 2 12 (wF 94 g) := by
  refine vx_sure (c_X5_mix l hst E g ln bf z ke hs (nI k) (nI 2)) (fun Ex s t hX => ?_) (qi_mono fun r v t h1 h2 => ⟨(), ?_, ?_⟩)
  · obtain ⟨_, _, h9, _⟩ := hX
    exact h9.1.2 ⟨vp_in_nI hk (by decide), vp_in_nI (N := 3) (by decide) (by decide)⟩
  · rw [nI_clamp (n := k) (by omega), nI_clamp (n := 2) (by omega)] at h1
    exact h1.trans (a_mix hz k 2)
  · exact h2.2
theorem n_rec0 (l : Launch) (hst : l.stackTraces = false) (E : wE) (g : Nat → Nat) (ln : Nat) (bf : Nat → Int32) (z : SS) (ke : Nat) (hs : Nat → SS) {B : Nat} {y : MS} (hz : RZ B z y) {u : Nat} (hu : u < 3) : Met l yX5_receiver wsX5_receiver ({ frames := 7, cells := 2, slots := 12, locals := 129 }) (va_Pc [.ref (g 0), .int (nI u), .int (nI 0)] (wSx E 94 g (wF 94 g) (MB E g ln bf z ke hs))) (va_Qi (fun (r : Int32) (_ : Unit) => r = bI (y.2.2.2 u).1) (fun _ t => MB E g ln bf z ke hs t.heap) (wF 94 g)) 2 12 (wF 94 g) := by
  refine vx_sure (c_X5_receiver l hst E g ln bf z ke hs (nI u) (nI 0)) (fun Ex s t hX => ?_) (qi_mono fun r v t h1 h2 => ⟨(), ?_, ?_⟩)
  · obtain ⟨_, _, h9, _⟩ := hX
    exact h9.1.elim (fun q => q.2 (vp_in_nI hu (by decide))) (fun q => q.2.2 (vp_in_nI (N := 9) (by decide) (by decide)))
  · rw [nI_clamp (n := u) (by omega), nI_clamp (n := 0) (by omega)] at h1
    exact h1.trans (a_num hz hu 0)
  · exact h2.2
theorem n_rec1 (l : Launch) (hst : l.stackTraces = false) (E : wE) (g : Nat → Nat) (ln : Nat) (bf : Nat → Int32) (z : SS) (ke : Nat) (hs : Nat → SS) {B : Nat} {y : MS} (hz : RZ B z y) {u : Nat} (hu : u < 3) : Met l yX5_receiver wsX5_receiver ({ frames := 7, cells := 2, slots := 12, locals := 129 }) (va_Pc [.ref (g 0), .int (nI u), .int (nI 1)] (wSx E 94 g (wF 94 g) (MB E g ln bf z ke hs))) (va_Qi (fun (r : Int32) (_ : Unit) => r = nI (pc (y.2.2.2 u).2.1)) (fun _ t => MB E g ln bf z ke hs t.heap) (wF 94 g)) 2 12 (wF 94 g) := by
  refine vx_sure (c_X5_receiver l hst E g ln bf z ke hs (nI u) (nI 1)) (fun Ex s t hX => ?_) (qi_mono fun r v t h1 h2 => ⟨(), ?_, ?_⟩)
  · obtain ⟨_, _, h9, _⟩ := hX
    exact h9.1.elim (fun q => q.2 (vp_in_nI hu (by decide))) (fun q => q.2.2 (vp_in_nI (N := 9) (by decide) (by decide)))
  · rw [nI_clamp (n := u) (by omega), nI_clamp (n := 1) (by omega)] at h1
    exact h1.trans (a_num hz hu 1)
  · exact h2.2
theorem n_rec2 (l : Launch) (hst : l.stackTraces = false) (E : wE) (g : Nat → Nat) (ln : Nat) (bf : Nat → Int32) (z : SS) (ke : Nat) (hs : Nat → SS) {B : Nat} {y : MS} (hz : RZ B z y) {u : Nat} (hu : u < 3) : Met l yX5_receiver wsX5_receiver ({ frames := 7, cells := 2, slots := 12, locals := 129 }) (va_Pc [.ref (g 0), .int (nI u), .int (nI 2)] (wSx E 94 g (wF 94 g) (MB E g ln bf z ke hs))) (va_Qi (fun (r : Int32) (_ : Unit) => r = nI (y.2.2.2 u).2.1) (fun _ t => MB E g ln bf z ke hs t.heap) (wF 94 g)) 2 12 (wF 94 g) := by
  refine vx_sure (c_X5_receiver l hst E g ln bf z ke hs (nI u) (nI 2)) (fun Ex s t hX => ?_) (qi_mono fun r v t h1 h2 => ⟨(), ?_, ?_⟩)
  · obtain ⟨_, _, h9, _⟩ := hX
    exact h9.1.elim (fun q => q.2 (vp_in_nI hu (by decide))) (fun q => q.2.2 (vp_in_nI (N := 9) (by decide) (by decide)))
  · rw [nI_clamp (n := u) (by omega), nI_clamp (n := 2) (by omega)] at h1
    exact h1.trans (a_num hz hu 2)
  · exact h2.2
theorem n_rec3 (l : Launch) (hst : l.stackTraces = false) (E : wE) (g : Nat → Nat) (ln : Nat) (bf : Nat → Int32) (z : SS) (ke : Nat) (hs : Nat → SS) {B : Nat} {y : MS} (hz : RZ B z y) {u : Nat} (hu : u < 3) : Met l yX5_receiver wsX5_receiver ({ frames := 7, cells := 2, slots := 12, locals := 129 }) (va_Pc [.ref (g 0), .int (nI u), .int (nI 3)] (wSx E 94 g (wF 94 g) (MB E g ln bf z ke hs))) (va_Qi (fun (r : Int32) (_ : Unit) => r = nI (y.2.2.2 u).2.2.2.2.2.length) (fun _ t => MB E g ln bf z ke hs t.heap) (wF 94 g)) 2 12 (wF 94 g) := by
  refine vx_sure (c_X5_receiver l hst E g ln bf z ke hs (nI u) (nI 3)) (fun Ex s t hX => ?_) (qi_mono fun r v t h1 h2 => ⟨(), ?_, ?_⟩)
  · obtain ⟨_, _, h9, _⟩ := hX
    exact h9.1.elim (fun q => q.2 (vp_in_nI hu (by decide))) (fun q => q.2.2 (vp_in_nI (N := 9) (by decide) (by decide)))
  · rw [nI_clamp (n := u) (by omega), nI_clamp (n := 3) (by omega)] at h1
    exact h1.trans (a_num hz hu 3)
  · exact h2.2
theorem n_rec4 (l : Launch) (hst : l.stackTraces = false) (E : wE) (g : Nat → Nat) (ln : Nat) (bf : Nat → Int32) (z : SS) (ke : Nat) (hs : Nat → SS) {B : Nat} {y : MS} (hz : RZ B z y) {u : Nat} (hu : u < 3) : Met l yX5_receiver wsX5_receiver ({ frames := 7, cells := 2, slots := 12, locals := 129 }) (va_Pc [.ref (g 0), .int (nI u), .int (nI 4)] (wSx E 94 g (wF 94 g) (MB E g ln bf z ke hs))) (va_Qi (fun (r : Int32) (_ : Unit) => r = (y.2.2.2 u).2.2.1) (fun _ t => MB E g ln bf z ke hs t.heap) (wF 94 g)) 2 12 (wF 94 g) := by
  refine vx_sure (c_X5_receiver l hst E g ln bf z ke hs (nI u) (nI 4)) (fun Ex s t hX => ?_) (qi_mono fun r v t h1 h2 => ⟨(), ?_, ?_⟩)
  · obtain ⟨_, _, h9, _⟩ := hX
    exact h9.1.elim (fun q => q.2 (vp_in_nI hu (by decide))) (fun q => q.2.2 (vp_in_nI (N := 9) (by decide) (by decide)))
  · rw [nI_clamp (n := u) (by omega), nI_clamp (n := 4) (by omega)] at h1
    exact h1.trans (a_num hz hu 4)
  · exact h2.2
theorem n_rec5 (l : Launch) (hst : l.stackTraces = false) (E : wE) (g : Nat → Nat) (ln : Nat) (bf : Nat → Int32) (z : SS) (ke : Nat) (hs : Nat → SS) {B : Nat} {y : MS} (hz : RZ B z y) {u : Nat} (hu : u < 3) : Met l yX5_receiver wsX5_receiver ({ frames := 7, cells := 2, slots := 12, locals := 129 }) (va_Pc [.ref (g 0), .int (nI u), .int (nI 5)] (wSx E 94 g (wF 94 g) (MB E g ln bf z ke hs))) (va_Qi (fun (r : Int32) (_ : Unit) => r = (y.2.2.2 u).2.2.2.1) (fun _ t => MB E g ln bf z ke hs t.heap) (wF 94 g)) 2 12 (wF 94 g) := by
  refine vx_sure (c_X5_receiver l hst E g ln bf z ke hs (nI u) (nI 5)) (fun Ex s t hX => ?_) (qi_mono fun r v t h1 h2 => ⟨(), ?_, ?_⟩)
  · obtain ⟨_, _, h9, _⟩ := hX
    exact h9.1.elim (fun q => q.2 (vp_in_nI hu (by decide))) (fun q => q.2.2 (vp_in_nI (N := 9) (by decide) (by decide)))
  · rw [nI_clamp (n := u) (by omega), nI_clamp (n := 5) (by omega)] at h1
    exact h1.trans (a_num hz hu 5)
  · exact h2.2
theorem n_rec6 (l : Launch) (hst : l.stackTraces = false) (E : wE) (g : Nat → Nat) (ln : Nat) (bf : Nat → Int32) (z : SS) (ke : Nat) (hs : Nat → SS) {B : Nat} {y : MS} (hz : RZ B z y) {u : Nat} (hu : u < 3) : Met l yX5_receiver wsX5_receiver ({ frames := 7, cells := 2, slots := 12, locals := 129 }) (va_Pc [.ref (g 0), .int (nI u), .int (nI 6)] (wSx E 94 g (wF 94 g) (MB E g ln bf z ke hs))) (va_Qi (fun (r : Int32) (_ : Unit) => r = (y.2.2.2 u).2.2.2.2.1) (fun _ t => MB E g ln bf z ke hs t.heap) (wF 94 g)) 2 12 (wF 94 g) := by
  refine vx_sure (c_X5_receiver l hst E g ln bf z ke hs (nI u) (nI 6)) (fun Ex s t hX => ?_) (qi_mono fun r v t h1 h2 => ⟨(), ?_, ?_⟩)
  · obtain ⟨_, _, h9, _⟩ := hX
    exact h9.1.elim (fun q => q.2 (vp_in_nI hu (by decide))) (fun q => q.2.2 (vp_in_nI (N := 9) (by decide) (by decide)))
  · rw [nI_clamp (n := u) (by omega), nI_clamp (n := 6) (by omega)] at h1
    exact h1.trans (a_num hz hu 6)
  · exact h2.2
theorem n_rec7 (l : Launch) (hst : l.stackTraces = false) (E : wE) (g : Nat → Nat) (ln : Nat) (bf : Nat → Int32) (z : SS) (ke : Nat) (hs : Nat → SS) {B : Nat} {y : MS} (hz : RZ B z y) {u : Nat} (hu : u < 3) : Met l yX5_receiver wsX5_receiver ({ frames := 7, cells := 2, slots := 12, locals := 129 }) (va_Pc [.ref (g 0), .int (nI u), .int (nI 7)] (wSx E 94 g (wF 94 g) (MB E g ln bf z ke hs))) (va_Qi (fun (r : Int32) (_ : Unit) => r = bI (isDM y.1 (y.2.2.2 u).2)) (fun _ t => MB E g ln bf z ke hs t.heap) (wF 94 g)) 2 12 (wF 94 g) := by
  refine vx_sure (c_X5_receiver l hst E g ln bf z ke hs (nI u) (nI 7)) (fun Ex s t hX => ?_) (qi_mono fun r v t h1 h2 => ⟨(), ?_, ?_⟩)
  · obtain ⟨_, _, h9, _⟩ := hX
    exact h9.1.elim (fun q => q.2 (vp_in_nI hu (by decide))) (fun q => q.2.2 (vp_in_nI (N := 9) (by decide) (by decide)))
  · rw [nI_clamp (n := u) (by omega), nI_clamp (n := 7) (by omega)] at h1
    exact h1.trans (a_num hz hu 7)
  · exact h2.2
theorem n_rec8 (l : Launch) (hst : l.stackTraces = false) (E : wE) (g : Nat → Nat) (ln : Nat) (bf : Nat → Int32) (z : SS) (ke : Nat) (hs : Nat → SS) {B : Nat} {y : MS} (hz : RZ B z y) {u : Nat} (hu : u < 3) : Met l yX5_receiver wsX5_receiver ({ frames := 7, cells := 2, slots := 12, locals := 129 }) (va_Pc [.ref (g 0), .int (nI u), .int (nI 8)] (wSx E 94 g (wF 94 g) (MB E g ln bf z ke hs))) (va_Qi (fun (r : Int32) (_ : Unit) => r = nI (rkN (y.2.2.2 u).2)) (fun _ t => MB E g ln bf z ke hs t.heap) (wF 94 g)) 2 12 (wF 94 g) := by
  refine vx_sure (c_X5_receiver l hst E g ln bf z ke hs (nI u) (nI 8)) (fun Ex s t hX => ?_) (qi_mono fun r v t h1 h2 => ⟨(), ?_, ?_⟩)
  · obtain ⟨_, _, h9, _⟩ := hX
    exact h9.1.elim (fun q => q.2 (vp_in_nI hu (by decide))) (fun q => q.2.2 (vp_in_nI (N := 9) (by decide) (by decide)))
  · rw [nI_clamp (n := u) (by omega), nI_clamp (n := 8) (by omega)] at h1
    exact h1.trans (a_num hz hu 8)
  · exact h2.2
theorem n_known (l : Launch) (hst : l.stackTraces = false) (E : wE) (g : Nat → Nat) (ln : Nat) (bf : Nat → Int32) (z : SS) (ke : Nat) (hs : Nat → SS) {B : Nat} {y : MS} (hz : RZ B z y) {u : Nat} (hu : u < 3) {b : Nat} (hb : b < y.1) : Met l yX5_known wsX5_known ({ frames := 7, cells := 2, slots := 12, locals := 112 }) (va_Pc [.ref (g 0), .int (nI u), .int (nI b)] (wSx E 94 g (wF 94 g) (MB E g ln bf z ke hs))) (va_Qi (fun (r : Int32) (_ : Unit) => r = knM y.2.1 (y.2.2.2 u).2.1 b) (fun _ t => MB E g ln bf z ke hs t.heap) (wF 94 g)) 2 12 (wF 94 g) := by
  refine vx_sure (c_X5_known l hst E g ln bf z ke hs (nI u) (nI b)) (fun Ex s t hX => ?_) (qi_mono fun r v t h1 h2 => ⟨(), ?_, ?_⟩)
  · obtain ⟨_, _, h9, _⟩ := hX
    exact h9.1.2 ⟨vp_in_nI hu (by decide), (by obtain ⟨e1, _, _⟩ := rz_nb hz; exact vp_in_nI (by omega) (by omega))⟩
  · obtain ⟨_, _, e3⟩ := rz_nb hz
    rw [nI_clamp (n := u) (by omega), nI_clamp (n := b) (by omega)] at h1
    exact h1.trans (a_known hz hu (by omega))
  · exact h2.2
theorem n_wait0 (l : Launch) (hst : l.stackTraces = false) (E : wE) (g : Nat → Nat) (ln : Nat) (bf : Nat → Int32) (z : SS) (ke : Nat) (hs : Nat → SS) {B : Nat} {y : MS} (hz : RZ B z y) {u : Nat} (hu : u < 3) {q : Nat} (hq : q < 2 ^ 31) : Met l yX5_waiting wsX5_waiting ({ frames := 7, cells := 2, slots := 12, locals := 112 }) (va_Pc [.ref (g 0), .int (nI u), .int (nI q), .int (nI 0)] (wSx E 94 g (wF 94 g) (MB E g ln bf z ke hs))) (va_Qi (fun (r : Int32) (_ : Unit) => r = (if (y.2.2.2 u).2.2.2.2.2.length ≤ q then -1 else nI ((y.2.2.2 u).2.2.2.2.2.getD q 0))) (fun _ t => MB E g ln bf z ke hs t.heap) (wF 94 g)) 2 12 (wF 94 g) := by
  refine vx_sure (c_X5_waiting l hst E g ln bf z ke hs (nI u) (nI q) (nI 0)) (fun Ex s t hX => ?_) (qi_mono fun r v t h1 h2 => ⟨(), ?_, ?_⟩)
  · obtain ⟨_, _, h9, _⟩ := hX
    exact h9.1.elim (fun q => q.2 (vp_in_nI hu (by decide))) (fun q => q.2.2 ⟨nI_pos hq, vp_in_nI (N := 2) (by decide) (by decide)⟩)
  · rw [nI_clamp (n := u) (by omega), nI_clamp (n := 0) (by omega), nI_clamp hq] at h1
    exact h1.trans (a_wait hz hu q 0)
  · exact h2.2
theorem n_wait1 (l : Launch) (hst : l.stackTraces = false) (E : wE) (g : Nat → Nat) (ln : Nat) (bf : Nat → Int32) (z : SS) (ke : Nat) (hs : Nat → SS) {B : Nat} {y : MS} (hz : RZ B z y) {u : Nat} (hu : u < 3) {q : Nat} (hq : q < 2 ^ 31) : Met l yX5_waiting wsX5_waiting ({ frames := 7, cells := 2, slots := 12, locals := 112 }) (va_Pc [.ref (g 0), .int (nI u), .int (nI q), .int (nI 1)] (wSx E 94 g (wF 94 g) (MB E g ln bf z ke hs))) (va_Qi (fun (r : Int32) (_ : Unit) => r = (if (y.2.2.2 u).2.2.2.2.2.length ≤ q then -1 else vlM y.1 y.2.1 ((y.2.2.2 u).2.2.2.2.2.getD q 0))) (fun _ t => MB E g ln bf z ke hs t.heap) (wF 94 g)) 2 12 (wF 94 g) := by
  refine vx_sure (c_X5_waiting l hst E g ln bf z ke hs (nI u) (nI q) (nI 1)) (fun Ex s t hX => ?_) (qi_mono fun r v t h1 h2 => ⟨(), ?_, ?_⟩)
  · obtain ⟨_, _, h9, _⟩ := hX
    exact h9.1.elim (fun q => q.2 (vp_in_nI hu (by decide))) (fun q => q.2.2 ⟨nI_pos hq, vp_in_nI (N := 2) (by decide) (by decide)⟩)
  · rw [nI_clamp (n := u) (by omega), nI_clamp (n := 1) (by omega), nI_clamp hq] at h1
    exact h1.trans (a_wait hz hu q 1)
  · exact h2.2
theorem n_count0 (l : Launch) (hst : l.stackTraces = false) (E : wE) (g : Nat → Nat) (ln : Nat) (bf : Nat → Int32) (z : SS) (ke : Nat) (hs : Nat → SS) {B : Nat} {y : MS} (hz : RZ B z y) : Met l yX5_count wsX5_count ({ frames := 7, cells := 1, slots := 6, locals := 111 }) (va_Pc [.ref (g 0), .int (nI 0)] (wSx E 94 g (wF 94 g) (MB E g ln bf z ke hs))) (va_Qi (fun (r : Int32) (_ : Unit) => r = nI y.1) (fun _ t => MB E g ln bf z ke hs t.heap) (wF 94 g)) 1 6 (wF 94 g) := by
  refine vx_sure (c_X5_count l hst E g ln bf z ke hs (nI 0)) (fun Ex s t hX => ?_) (qi_mono fun r v t h1 h2 => ⟨(), ?_, ?_⟩)
  · obtain ⟨_, _, h9, _⟩ := hX
    exact h9.1.2 (vp_in_nI (N := 6) (by decide) (by decide))
  · rw [nI_clamp (n := 0) (by omega)] at h1
    exact h1.trans (count_mk hz ke 0)
  · exact h2.2
theorem n_block (l : Launch) (hst : l.stackTraces = false) (E : wE) (g : Nat → Nat) (ln : Nat) (bf : Nat → Int32) (z : SS) (ke : Nat) (hs : Nat → SS) {B : Nat} {y : MS} (hz : RZ B z y) {b : Nat} (hb : b < y.1) : Met l yX5_block wsX5_block ({ frames := 7, cells := 1, slots := 6, locals := 111 }) (va_Pc [.ref (g 0), .int (nI b)] (wSx E 94 g (wF 94 g) (MB E g ln bf z ke hs))) (va_Qi (fun (r : Int32) (_ : Unit) => r = y.2.1 b) (fun _ t => MB E g ln bf z ke hs t.heap) (wF 94 g)) 1 6 (wF 94 g) := by
  refine vx_sure (c_X5_block l hst E g ln bf z ke hs (nI b)) (fun Ex s t hX => ?_) (qi_mono fun r v t h1 h2 => ⟨(), ?_, ?_⟩)
  · obtain ⟨_, _, h9, _⟩ := hX
    exact h9.1.2 (by obtain ⟨e1, _, _⟩ := rz_nb hz; exact vp_in_nI (by omega) (by omega))
  · obtain ⟨_, _, e3⟩ := rz_nb hz
    rw [nI_clamp (n := b) (by omega)] at h1
    exact h1.trans (congrFun (a_va hz) b)
  · exact h2.2
theorem n_ifGot0 (l : Launch) (hst : l.stackTraces = false) (E : wE) (g : Nat → Nat) (ln : Nat) (bf : Nat → Int32) (z : SS) (ke : Nat) (hs : Nat → SS) {B : Nat} {y : MS} (hz : RZ B z y) {u : Nat} (hu : u < 3) {k : Nat} (hk : k < 10000) : Met l yX5_ifGot wsX5_ifGot ({ frames := 7, cells := 3, slots := 18, locals := 148 }) (va_Pc [.ref (g 0), .int (nI u), .int (nI k), .int (nI 0)] (wSx E 94 g (wF 94 g) (MB E g ln bf z ke hs))) (va_Qi (fun (r : Int32) (_ : Unit) => r = nI (gd (mskM y.1 k) (y.2.2.2 u))) (fun _ t => MB E g ln bf z ke hs t.heap) (wF 94 g)) 3 18 (wF 94 g) := by
  refine vx_sure (c_X5_ifGot l hst E g ln bf z ke hs (nI u) (nI k) (nI 0)) (fun Ex s t hX => ?_) (qi_mono fun r v t h1 h2 => ⟨(), ?_, ?_⟩)
  · obtain ⟨_, _, h9, _⟩ := hX
    exact h9.1.elim (fun q => q.2 (vp_in_nI hu (by decide))) (fun q => q.2.2 ⟨vp_in_nI hk (by decide), vp_in_nI (N := 2) (by decide) (by decide)⟩)
  · obtain ⟨_, e2, e3⟩ := rz_nb hz
    rw [nI_clamp (n := u) (by omega), nI_clamp (n := k) (by omega), nI_clamp (n := 0) (by omega), if_pos rfl] at h1
    exact h1.trans ((a_got0 hz hu k).trans (gtv_nI e3 (mskM_lt (by omega) k) (rz_MI hz hu).1).1)
  · exact h2.2
theorem n_ifGot1 (l : Launch) (hst : l.stackTraces = false) (E : wE) (g : Nat → Nat) (ln : Nat) (bf : Nat → Int32) (z : SS) (ke : Nat) (hs : Nat → SS) {B : Nat} {y : MS} (hz : RZ B z y) {u : Nat} (hu : u < 3) {k : Nat} (hk : k < 10000) : Met l yX5_ifGot wsX5_ifGot ({ frames := 7, cells := 3, slots := 18, locals := 148 }) (va_Pc [.ref (g 0), .int (nI u), .int (nI k), .int (nI 1)] (wSx E 94 g (wF 94 g) (MB E g ln bf z ke hs))) (va_Qi (fun (r : Int32) (_ : Unit) => r = nI (rkN (getM (mskM y.1 k) (y.2.2.2 u).2))) (fun _ t => MB E g ln bf z ke hs t.heap) (wF 94 g)) 3 18 (wF 94 g) := by
  refine vx_sure (c_X5_ifGot l hst E g ln bf z ke hs (nI u) (nI k) (nI 1)) (fun Ex s t hX => ?_) (qi_mono fun r v t h1 h2 => ⟨(), ?_, ?_⟩)
  · obtain ⟨_, _, h9, _⟩ := hX
    exact h9.1.elim (fun q => q.2 (vp_in_nI hu (by decide))) (fun q => q.2.2 ⟨vp_in_nI hk (by decide), vp_in_nI (N := 2) (by decide) (by decide)⟩)
  · rw [nI_clamp (n := u) (by omega), nI_clamp (n := k) (by omega), nI_clamp (n := 1) (by omega), if_neg (by decide)] at h1
    exact h1.trans (a_got1 hz hu k)
  · exact h2.2
theorem n_helps (l : Launch) (hst : l.stackTraces = false) (E : wE) (g : Nat → Nat) (ln : Nat) (bf : Nat → Int32) (z : SS) (ke : Nat) (hs : Nat → SS) {B : Nat} {y : MS} (hz : RZ B z y) {u : Nat} (hu : u < 3) {k : Nat} (hk : k < 10000) : Met l yX5_helps wsX5_helps ({ frames := 7, cells := 2, slots := 12, locals := 149 }) (va_Pc [.ref (g 0), .int (nI u), .int (nI k)] (wSx E 94 g (wF 94 g) (MB E g ln bf z ke hs))) (va_Qi (fun (r : Int32) (_ : Unit) => r = nhS (hpM y.1 (y.2.2.2 u)) (nhN k) k) (fun _ t => MB E g ln bf z ke hs t.heap) (wF 94 g)) 2 12 (wF 94 g) := by
  refine vx_sure (c_X5_helps l hst E g ln bf z ke hs (nI u) (nI k)) (fun Ex s t hX => ?_) (qi_mono fun r v t h1 h2 => ⟨(), ?_, ?_⟩)
  · obtain ⟨_, _, h9, _⟩ := hX
    exact h9.1.elim (fun q => q.2 (vp_in_nI hu (by decide))) (fun q => q.2.2 (vp_in_nI hk (by decide)))
  · rw [nI_clamp (n := u) (by omega), nI_clamp (n := k) (by omega)] at h1
    exact h1.trans (a_helps hz hu _ k)
  · exact h2.2
theorem n_needs (l : Launch) (hst : l.stackTraces = false) (E : wE) (g : Nat → Nat) (ln : Nat) (bf : Nat → Int32) (z : SS) (ke : Nat) (hs : Nat → SS) {B : Nat} {y : MS} (hz : RZ B z y) {u : Nat} (hu : u < 3) {k : Nat} (hk : k < 9900) (bb : Bool) : Met l yX5_needs wsX5_needs ({ frames := 7, cells := 2, slots := 12, locals := 150 }) (va_Pc [.ref (g 0), .int (nI u), .int (nI k), .int (bI bb)] (wSx E 94 g (wF 94 g) (MB E g ln bf z ke hs))) (va_Qi (fun (r : Int32) (_ : Unit) => r = ndM y.1 k bb 100 0 (y.2.2.2 u).2) (fun _ t => MB E g ln bf z ke hs t.heap) (wF 94 g)) 2 12 (wF 94 g) := by
  refine vx_sure (c_X5_needs l hst E g ln bf z ke hs (nI u) (nI k) bb) (fun Ex s t hX => ?_) (qi_mono fun r v t h1 h2 => ⟨(), ?_, ?_⟩)
  · obtain ⟨_, _, h9, _⟩ := hX
    exact h9.1.elim (fun q => q.2 (vp_in_nI hu (by decide))) (fun q => q.2.2 (vp_in_nI hk (by decide)))
  · rw [nI_clamp (n := u) (by omega), nI_clamp (n := k) (by omega)] at h1
    exact h1.trans (a_needs hz hu k bb 100 0)
  · exact h2.2
theorem n_ifEl (l : Launch) (hst : l.stackTraces = false) (E : wE) (g : Nat → Nat) (ln : Nat) (bf : Nat → Int32) (z : SS) (ke : Nat) (hs : Nat → SS) {B : Nat} {y : MS} (hz : RZ B z y) {u : Nat} (hu : u < 3) : Met l yX5_ifEliminated wsX5_ifEliminated ({ frames := 7, cells := 1, slots := 6, locals := 130 }) (va_Pc [.ref (g 0), .int (nI u)] (wSx E 94 g (wF 94 g) (MB E g ln bf z ke hs))) (va_Qi (fun (r : Int32) (_ : Unit) => r = nI (pc (alnM (redW (y.2.2.2 u).2.2.2.2.2)))) (fun _ t => MB E g ln bf z ke hs t.heap) (wF 94 g)) 1 6 (wF 94 g) := by
  refine vx_sure (c_X5_ifEliminated l hst E g ln bf z ke hs (nI u)) (fun Ex s t hX => ?_) (qi_mono fun r v t h1 h2 => ⟨(), ?_, ?_⟩)
  · obtain ⟨_, _, h9, _⟩ := hX
    exact h9.1.2 (vp_in_nI hu (by decide))
  · rw [nI_clamp (n := u) (by omega)] at h1
    exact h1.trans (a_ifel hz hu)
  · exact h2.2
theorem n_use (l : Launch) (hst : l.stackTraces = false) (E : wE) (g : Nat → Nat) (ln : Nat) (bf : Nat → Int32) (z : SS) (ke : Nat) (hs : Nat → SS) {B : Nat} {y : MS} (hz : RZ B z y) {u : Nat} (hu : u < 3) : Met l yX5_use wsX5_use ({ frames := 7, cells := 1, slots := 6, locals := 112 }) (va_Pc [.ref (g 0), .int (nI u)] (wSx E 94 g (wF 94 g) (MB E g ln bf z ke hs))) (va_Qd (fun (r : UInt64) (_ : Unit) => r = shF (y.2.2.2 u).2.2.1 (y.2.2.2 u).2.2.2.1 (y.2.2.2 u).2.2.2.2.1) (fun _ t => MB E g ln bf z ke hs t.heap) (wF 94 g)) 1 6 (wF 94 g) := by
  refine vx_sure (c_X5_use l hst E g ln bf z ke hs (nI u)) (fun Ex s t hX => ?_) (qd_mono fun r v t h1 h2 => ⟨(), ?_, ?_⟩)
  · obtain ⟨_, _, h9, _⟩ := hX
    exact h9.1.2 (vp_in_nI hu (by decide))
  · rw [nI_clamp (n := u) (by omega)] at h1
    have e4 : (z.2.2.2 u).2.2.2.2.1 = (y.2.2.2 u).2.2.1 := a_num hz hu 4
    have e5 : (z.2.2.2 u).2.2.2.2.2.1 = (y.2.2.2 u).2.2.2.1 := a_num hz hu 5
    have e6 : (z.2.2.2 u).2.2.2.2.2.2 = (y.2.2.2 u).2.2.2.2.1 := a_num hz hu 6
    rw [e4, e5, e6] at h1
    exact h1
  · exact h2.2
