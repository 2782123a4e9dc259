section
variable {D : va_G} {cI cJ cS : ClassId} {z b : Nat} {sc : Nat × (Nat → Int32)} {p : Program} {l : Launch} {e : Env} {R : Room} {s : State} {m : MethodId} {args : Array Value} {below : List Frame} {meth : Method} {c : Code} {Q : State → Prop} {y n0 s0 pc : Nat} {ls : ri_L} {st : List Value} {w : ri_W} {c' : ri_C}
theorem ri_s_min (C : ri_At D cI cJ cS z b sc R p s m args meth c y) {ix : Nat} {e0 : Nat × Nat × Nat × Nat × List Nat} (he : ri_mlk (ri_ow y) ix = some e0) (h5 : e0.2.2.1 = 5) (hrk : 1 ≤ ri_rk y) (hd : decode (ri_bc y) pc = .ok (.invokestatic ix, 3)) (h : ri_xmn pc ls st w = some (.inl c')) (hR : c'.2.2.2.length - n0 ≤ R.cells ∧ ri_ns c'.2.2.2 - s0 ≤ R.slots) (k : ri_G D cI cJ cS z b p l e R s m args below meth c Q y n0 s0 c') : ri_G D cI cJ cS z b p l e R s m args below meth c Q y n0 s0 (pc, ls, st, w) := by
  obtain ⟨hx, hb, hr, hml, hown, hts, hlocks, hini, hK, hX, hbz, hfr, hlo⟩ := C
  obtain ⟨f1, f2, f3, f4⟩ := ri_mlk_ok he
  have hwd : ∀ w ∈ ri_mw e0, w.before args s = true := fun w hw => hts w (ri_WS_in (f2 w hw).1 ((f2 w hw).2.resolve_right (by rw [h5]; decide)))
  unfold ri_mw at hwd
  rw [h5, f3, f4] at hwd
  unfold ri_xmn at h
  split at h
  · split at h
    · rename_i hsh
      cases h
      intro H locs lm h1 h2 h3 h4
      refine va_mmin hx hb (by rw [hml]; exact h4.1.symm) hown (hwd _ (by simp)) (hwd (.static Lib.Math.min.name) (by simp)) (hwd (.initialized "java/lang/Math") (by simp)) (hwd (.code Lib.Math.min.name Lib.Math.min.code 2 (some .int)) (by simp)) (by omega) ?_ hR.1 hR.2 hd (k H locs lm h1 h2 h3 h4)
      have := ri_sh_sum (z := z) (b := b) hsh
      omega
    · cases h
  · cases h
theorem ri_s_max (C : ri_At D cI cJ cS z b sc R p s m args meth c y) {ix : Nat} {e0 : Nat × Nat × Nat × Nat × List Nat} (he : ri_mlk (ri_ow y) ix = some e0) (h5 : e0.2.2.1 = 6) (hrk : 1 ≤ ri_rk y) (hd : decode (ri_bc y) pc = .ok (.invokestatic ix, 3)) (h : ri_xmx pc ls st w = some (.inl c')) (hR : c'.2.2.2.length - n0 ≤ R.cells ∧ ri_ns c'.2.2.2 - s0 ≤ R.slots) (k : ri_G D cI cJ cS z b p l e R s m args below meth c Q y n0 s0 c') : ri_G D cI cJ cS z b p l e R s m args below meth c Q y n0 s0 (pc, ls, st, w) := by
  obtain ⟨hx, hb, hr, hml, hown, hts, hlocks, hini, hK, hX, hbz, hfr, hlo⟩ := C
  obtain ⟨f1, f2, f3, f4⟩ := ri_mlk_ok he
  have hwd : ∀ w ∈ ri_mw e0, w.before args s = true := fun w hw => hts w (ri_WS_in (f2 w hw).1 ((f2 w hw).2.resolve_right (by rw [h5]; decide)))
  unfold ri_mw at hwd
  rw [h5, f3, f4] at hwd
  unfold ri_xmx at h
  split at h
  · split at h
    · rename_i hsh
      cases h
      intro H locs lm h1 h2 h3 h4
      refine va_mmax hx hb (by rw [hml]; exact h4.1.symm) hown (hwd _ (by simp)) (hwd (.static Lib.Math.max.name) (by simp)) (hwd (.initialized "java/lang/Math") (by simp)) (hwd (.code Lib.Math.max.name Lib.Math.max.code 2 (some .int)) (by simp)) (by omega) ?_ hR.1 hR.2 hd (k H locs lm h1 h2 h3 h4)
      have := ri_sh_sum (z := z) (b := b) hsh
      omega
    · cases h
  · cases h
theorem ri_loc2 {α : Type} {locs : List Loc} {a : Nat} {zs : List α} {f : α → Nat} (h3 : ∀ q ∈ locs, z ≤ q.base) : ∀ q ∈ locs ++ zs.map (fun i => (⟨z + a, f i⟩ : Loc)), z ≤ q.base := by
  intro q hq
  rcases List.mem_append.mp hq with hq | hq
  · exact h3 q hq
  · obtain ⟨i, -, rfl⟩ := List.mem_map.mp hq
    exact Nat.le_add_right z a
theorem ri_nn (q : Int32) (hq : ¬ q < 0) : q.toInt = (q.toNatClampNeg : Int) := by
  have hz0 : (0 : Int) ≤ q.toInt := by
    have := Int32.not_lt.mp hq
    simpa using Int32.le_iff_toInt_le.mp this
  show q.toInt = ((q.toInt.toNat : Nat) : Int)
  omega

theorem ri_s_copy (C : ri_At D cI cJ cS z b sc R p s m args meth c y) {ix : Nat} {e0 : Nat × Nat × Nat × Nat × List Nat} (he : ri_mlk (ri_ow y) ix = some e0) (h5 : e0.2.2.1 = 7) (hrk : 1 ≤ ri_rk y) (hd : decode (ri_bc y) pc = .ok (.invokestatic ix, 3)) (h : ri_xcp pc ls st w = some (.inl c')) (k : ri_G D cI cJ cS z b p l e R s m args below meth c Q y n0 s0 c') : ri_G D cI cJ cS z b p l e R s m args below meth c Q y n0 s0 (pc, ls, st, w) := by
  obtain ⟨hx, hb, hr, hml, hown, hts, hlocks, hini, hK, hX, hbz, hfr, hlo⟩ := C
  obtain ⟨f1, f2, f3, f4⟩ := ri_mlk_ok he
  have hwd : ∀ w ∈ ri_mw e0, w.before args s = true := fun w hw => hts w (ri_WS_in (f2 w hw).1 ((f2 w hw).2.resolve_right (by rw [h5]; decide)))
  unfold ri_mw at hwd
  rw [h5, f3, f4] at hwd
  unfold ri_xcp at h
  split at h
  · rename_i n dp a sp a0 r
    split at h
    · rename_i n0' f n1 g hg0 hg1
      split at h
      · rename_i hq
        obtain ⟨q1, q2, q3, q4, q5, hsh⟩ := hq
        cases h
        intro H locs lm h1 h2 h3 h4
        have hw0 := ri_gI_eq hg0
        have hw1 := ri_gI_eq hg1
        have hsum := ri_sh_sum (z := z) (b := b) hsh
        intro T hT X
        have hc0 : H[z + a0]? = some (vp_cell cI (n0', .inl f)) := h1.2 a0 _ hw0
        have hc1 : H[z + a]? = some (vp_cell cI (n1, .inl g)) := h1.2 a _ hw1
        obtain ⟨-, k0, hk0, cm0, hkk0⟩ := (hK.1.2 0 _ rfl).1 n0' (fun j => .int (f j))
        obtain ⟨vm', X', step⟩ := X.arraycopy hx hown (hwd (.methodLink (ri_on (ri_ow y)) ix arraycopyName) (by simp)) (hwd (.native arraycopyName) (by simp)) (hwd (.static arraycopyName) (by simp)) (hwd (.initialized "java/lang/System") (by simp)) (src := z + a0) (dst := z + a) (cs := vp_cell cI (n0', .inl f)) (cd := vp_cell cI (n1, .inl g)) (srcPos := sp) (destPos := dp) (n := n) (by rw [hT]; exact hc0) (by rw [hT]; exact hc1)
          (fun _ h => by cases h) (fun _ h => by cases h) (fun h => by cases h) (fun h => by cases h) hk0 hk0 hkk0 hkk0 (by simp [refKind]) q1 q2 q3
          (by rw [ri_nn sp q1, ri_nn n q3]; show ¬ _ > ((arrV cI n0' (fun j => .int (f j))).slots.size : Int); rw [arrV_size]; omega)
          (by rw [ri_nn dp q2, ri_nn n q3]; show ¬ _ > ((arrV cI n1 (fun j => .int (g j))).slots.size : Int); rw [arrV_size]; omega)
          (fun vm₁ _ i hi => by
            have e : (vp_cell cI (n0', .inl f)).slots.getD (sp.toNatClampNeg + i) .null = .int (f (sp.toNatClampNeg + i)) := by
              show (arrV cI n0' (fun j => .int (f j))).slots.getD _ _ = _
              rw [Array.getD_eq_getD_getElem?, arrV_read _ _ (by omega)]
              rfl
            refine ⟨?_, ?_⟩
            · rw [e]
              rfl
            · rw [e]
              exact trivial)
          (g := F0 m pc lm (.int n :: .int dp :: .ref (z + a) :: .int sp :: .ref (z + a0) :: r.map (ri_cv z b))) rfl (by rw [hml]; exact h4.1) (rest := r.map (ri_cv z b)) rfl (by rw [hb]; exact hd) (by omega) (by show 2 * 0 + _ + (7 + 11) ≤ _; omega)
        have e1 : copied (vp_cell cI (n0', .inl f)) (vp_cell cI (n1, .inl g)) sp dp n = vp_cell cI (n1, .inl (va_cpy f g sp.toNatClampNeg dp.toNatClampNeg n.toNatClampNeg)) := va_copied (fun q => .int q) cI cI f g q4
        rw [e1] at X' step
        have hl : z + a < H.size := (Array.getElem?_eq_some_iff.mp hc1).1
        have hheap : ((T.setVm vm').setCell (z + a) (vp_cell cI (n1, .inl (va_cpy f g sp.toNatClampNeg dp.toNatClampNeg n.toNatClampNeg)))).heap = H.setIfInBounds (z + a) (vp_cell cI (n1, .inl (va_cpy f g sp.toNatClampNeg dp.toNatClampNeg n.toNatClampNeg))) := by rw [← hT]; rfl
        obtain ⟨t, a1, b1⟩ := ri_G_set k hw1 rfl h1 h2 (by simp) (fun q hq => by simp [Array.getElem?_setIfInBounds, Ne.symm hq]) (show (H.setIfInBounds (z + a) _)[z + a]? = some _ by simp [Array.getElem?_setIfInBounds, hl]) (ri_loc2 h3) h4 _ hheap X'
        exact ⟨t, step t a1, b1⟩
      · cases h
    · rename_i n0' f n1 g hg0 hg1 _
      split at h
      · rename_i hq
        obtain ⟨q1, q2, q3, q4, q5, hsh⟩ := hq
        cases h
        intro H locs lm h1 h2 h3 h4
        have hw0 := ri_gJ_eq hg0
        have hw1 := ri_gJ_eq hg1
        have hsum := ri_sh_sum (z := z) (b := b) hsh
        intro T hT X
        have hc0 : H[z + a0]? = some (vp_cell cJ (n0', .inr (.inl f))) := h1.2 a0 _ hw0
        have hc1 : H[z + a]? = some (vp_cell cJ (n1, .inr (.inl g))) := h1.2 a _ hw1
        obtain ⟨-, k0, hk0, cm0, hkk0⟩ := (hK.1.2 1 _ rfl).1 n0' (fun j => .long (f j))
        obtain ⟨vm', X', step⟩ := X.arraycopy hx hown (hwd (.methodLink (ri_on (ri_ow y)) ix arraycopyName) (by simp)) (hwd (.native arraycopyName) (by simp)) (hwd (.static arraycopyName) (by simp)) (hwd (.initialized "java/lang/System") (by simp)) (src := z + a0) (dst := z + a) (cs := vp_cell cJ (n0', .inr (.inl f))) (cd := vp_cell cJ (n1, .inr (.inl g))) (srcPos := sp) (destPos := dp) (n := n) (by rw [hT]; exact hc0) (by rw [hT]; exact hc1)
          (fun _ h => by cases h) (fun _ h => by cases h) (fun h => by cases h) (fun h => by cases h) hk0 hk0 hkk0 hkk0 (by simp [refKind]) q1 q2 q3
          (by rw [ri_nn sp q1, ri_nn n q3]; show ¬ _ > ((arrV cJ n0' (fun j => .long (f j))).slots.size : Int); rw [arrV_size]; omega)
          (by rw [ri_nn dp q2, ri_nn n q3]; show ¬ _ > ((arrV cJ n1 (fun j => .long (g j))).slots.size : Int); rw [arrV_size]; omega)
          (fun vm₁ _ i hi => by
            have e : (vp_cell cJ (n0', .inr (.inl f))).slots.getD (sp.toNatClampNeg + i) .null = .long (f (sp.toNatClampNeg + i)) := by
              show (arrV cJ n0' (fun j => .long (f j))).slots.getD _ _ = _
              rw [Array.getD_eq_getD_getElem?, arrV_read _ _ (by omega)]
              rfl
            refine ⟨?_, ?_⟩
            · rw [e]
              rfl
            · rw [e]
              exact trivial)
          (g := F0 m pc lm (.int n :: .int dp :: .ref (z + a) :: .int sp :: .ref (z + a0) :: r.map (ri_cv z b))) rfl (by rw [hml]; exact h4.1) (rest := r.map (ri_cv z b)) rfl (by rw [hb]; exact hd) (by omega) (by show 2 * 0 + _ + (7 + 11) ≤ _; omega)
        have e1 : copied (vp_cell cJ (n0', .inr (.inl f))) (vp_cell cJ (n1, .inr (.inl g))) sp dp n = vp_cell cJ (n1, .inr (.inl (va_cpy f g sp.toNatClampNeg dp.toNatClampNeg n.toNatClampNeg))) := va_copied (fun q => .long q) cJ cJ f g q4
        rw [e1] at X' step
        have hl : z + a < H.size := (Array.getElem?_eq_some_iff.mp hc1).1
        have hheap : ((T.setVm vm').setCell (z + a) (vp_cell cJ (n1, .inr (.inl (va_cpy f g sp.toNatClampNeg dp.toNatClampNeg n.toNatClampNeg))))).heap = H.setIfInBounds (z + a) (vp_cell cJ (n1, .inr (.inl (va_cpy f g sp.toNatClampNeg dp.toNatClampNeg n.toNatClampNeg)))) := by rw [← hT]; rfl
        obtain ⟨t, a1, b1⟩ := ri_G_set k hw1 rfl h1 h2 (by simp) (fun q hq => by simp [Array.getElem?_setIfInBounds, Ne.symm hq]) (show (H.setIfInBounds (z + a) _)[z + a]? = some _ by simp [Array.getElem?_setIfInBounds, hl]) (ri_loc2 h3) h4 _ hheap X'
        exact ⟨t, step t a1, b1⟩
      · cases h
    · cases h
  · cases h
theorem ri_s_obj (C : ri_At D cI cJ cS z b sc R p s m args meth c y) {ix : Nat} {e0 : Nat × Nat × Nat × Nat × List Nat} (he : ri_mlk (ri_ow y) ix = some e0) (h5 : e0.2.2.1 = 4) (hrk : 1 ≤ ri_rk y) {a : Nat} {r : List Value} (hsh : ri_sh r = true) (hd : decode (ri_bc y) pc = .ok (.invokespecial ix, 3)) (k : ri_G D cI cJ cS z b p l e R s m args below meth c Q y n0 s0 (pc + 3, ls, r, w)) : ri_G D cI cJ cS z b p l e R s m args below meth c Q y n0 s0 (pc, ls, .ref a :: r, w) := by
  obtain ⟨hx, hb, hr, hml, hown, hts, hlocks, hini, hK, hX, hbz, hfr, hlo⟩ := C
  obtain ⟨f1, f2, f3, f4⟩ := ri_mlk_ok he
  have hwd : ∀ w ∈ ri_mw e0, w.before args s = true := fun w hw => hts w (ri_WS_in (f2 w hw).1 ((f2 w hw).2.resolve_right (by rw [h5]; decide)))
  unfold ri_mw at hwd
  rw [h5, f3, f4] at hwd
  intro H locs lm h1 h2 h3 h4
  have hsum := ri_sh_sum (z := z) (b := b) hsh
  exact W.objInit hx hb hown (hwd _ (by simp)) (hwd (.instanceMethod objectInit) (by simp)) (hwd (.code objectInit ⟨#[0xb1]⟩ 1 none) (by simp)) rfl (by rw [hml]; exact h4.1) rfl hd (by omega) (by show 2 * 0 + _ + 12 ≤ _; omega) (k H locs lm h1 h2 h3 h4)
theorem ri_step (C : ri_At D cI cJ cS z b sc R p s m args meth c y) {i : Instr} {len : Nat} (hd : decode (ri_bc y) pc = .ok (i, len)) (hl : ri_lok i len = true) (h : ri_ex y sc i pc ls st w = some (.inl c')) (hn : n0 ≤ w.length ∧ s0 ≤ ri_ns w) (hR : c'.2.2.2.length - n0 ≤ R.cells ∧ ri_ns c'.2.2.2 - s0 ≤ R.slots) (k : ri_G D cI cJ cS z b p l e R s m args below meth c Q y n0 s0 c') : ri_G D cI cJ cS z b p l e R s m args below meth c Q y n0 s0 (pc, ls, st, w) := by
  cases i with
  | aload_n kk =>
    obtain rfl : len = 1 := by simpa [ri_lok, ri_ln] using hl
    exact ri_s_aload_n C hd h k
  | iload_n kk =>
    obtain rfl : len = 1 := by simpa [ri_lok, ri_ln] using hl
    exact ri_s_iload_n C hd h k
  | iload kk =>
    obtain rfl : len = 2 := by simpa [ri_lok, ri_ln] using hl
    exact ri_s_iload C hd h k
  | lload_n kk =>
    obtain rfl : len = 1 := by simpa [ri_lok, ri_ln] using hl
    exact ri_s_lload_n C hd h k
  | lload kk =>
    obtain rfl : len = 2 := by simpa [ri_lok, ri_ln] using hl
    exact ri_s_lload C hd h k
  | iconst kk =>
    obtain rfl : len = 1 := by simpa [ri_lok, ri_ln] using hl
    exact ri_s_iconst C hd h k
  | bipush kk =>
    obtain rfl : len = 2 := by simpa [ri_lok, ri_ln] using hl
    exact ri_s_bipush C hd h k
  | sipush kk =>
    obtain rfl : len = 3 := by simpa [ri_lok, ri_ln] using hl
    exact ri_s_sipush C hd h k
  | lconst kk =>
    obtain rfl : len = 1 := by simpa [ri_lok, ri_ln] using hl
    exact ri_s_lconst C hd h k
  | istore_n kk =>
    obtain rfl : len = 1 := by simpa [ri_lok, ri_ln] using hl
    exact ri_s_istore_n C hd h k
  | istore kk =>
    obtain rfl : len = 2 := by simpa [ri_lok, ri_ln] using hl
    exact ri_s_istore C hd h k
  | astore_n kk =>
    obtain rfl : len = 1 := by simpa [ri_lok, ri_ln] using hl
    exact ri_s_astore_n C hd h k
  | lstore_n kk =>
    obtain rfl : len = 1 := by simpa [ri_lok, ri_ln] using hl
    exact ri_s_lstore_n C hd h k
  | lstore kk =>
    obtain rfl : len = 2 := by simpa [ri_lok, ri_ln] using hl
    exact ri_s_lstore C hd h k
  | iinc kk k2 =>
    obtain rfl : len = 3 := by simpa [ri_lok, ri_ln] using hl
    exact ri_s_iinc C hd h k
  | dup  =>
    obtain rfl : len = 1 := by simpa [ri_lok, ri_ln] using hl
    exact ri_s_dup C hd h k
  | dup2  =>
    obtain rfl : len = 1 := by simpa [ri_lok, ri_ln] using hl
    exact ri_s_dup2 C hd h k
  | iadd  =>
    obtain rfl : len = 1 := by simpa [ri_lok, ri_ln] using hl
    exact ri_s_iadd C hd h k
  | isub  =>
    obtain rfl : len = 1 := by simpa [ri_lok, ri_ln] using hl
    exact ri_s_isub C hd h k
  | imul  =>
    obtain rfl : len = 1 := by simpa [ri_lok, ri_ln] using hl
    exact ri_s_imul C hd h k
  | iand  =>
    obtain rfl : len = 1 := by simpa [ri_lok, ri_ln] using hl
    exact ri_s_iand C hd h k
  | ixor  =>
    obtain rfl : len = 1 := by simpa [ri_lok, ri_ln] using hl
    exact ri_s_ixor C hd h k
  | ior  =>
    obtain rfl : len = 1 := by simpa [ri_lok, ri_ln] using hl
    exact ri_s_ior C hd h k
  | ishr  =>
    obtain rfl : len = 1 := by simpa [ri_lok, ri_ln] using hl
    exact ri_s_ishr C hd h k
  | lmul  =>
    obtain rfl : len = 1 := by simpa [ri_lok, ri_ln] using hl
    exact ri_s_lmul C hd h k
  | lcmp  =>
    obtain rfl : len = 1 := by simpa [ri_lok, ri_ln] using hl
    exact ri_s_lcmp C hd h k
  | i2l  =>
    obtain rfl : len = 1 := by simpa [ri_lok, ri_ln] using hl
    exact ri_s_i2l C hd h k
  | pop  =>
    obtain rfl : len = 1 := by simpa [ri_lok, ri_ln] using hl
    exact ri_s_pop C hd h k
  | ldc kk =>
    obtain rfl : len = 2 := by simpa [ri_lok, ri_ln] using hl
    exact ri_s_ldc C hd h k
  | idiv  =>
    obtain rfl : len = 1 := by simpa [ri_lok, ri_ln] using hl
    exact ri_s_idiv C hd h k
  | irem  =>
    obtain rfl : len = 1 := by simpa [ri_lok, ri_ln] using hl
    exact ri_s_irem C hd h k
  | ladd  =>
    obtain rfl : len = 1 := by simpa [ri_lok, ri_ln] using hl
    exact ri_s_ladd C hd h k
  | lsub  =>
    obtain rfl : len = 1 := by simpa [ri_lok, ri_ln] using hl
    exact ri_s_lsub C hd h k
  | land  =>
    obtain rfl : len = 1 := by simpa [ri_lok, ri_ln] using hl
    exact ri_s_land C hd h k
  | lor  =>
    obtain rfl : len = 1 := by simpa [ri_lok, ri_ln] using hl
    exact ri_s_lor C hd h k
  | lxor  =>
    obtain rfl : len = 1 := by simpa [ri_lok, ri_ln] using hl
    exact ri_s_lxor C hd h k
  | lshl  =>
    obtain rfl : len = 1 := by simpa [ri_lok, ri_ln] using hl
    exact ri_s_lshl C hd h k
  | lushr  =>
    obtain rfl : len = 1 := by simpa [ri_lok, ri_ln] using hl
    exact ri_s_lushr C hd h k
  | l2i  =>
    obtain rfl : len = 1 := by simpa [ri_lok, ri_ln] using hl
    exact ri_s_l2i C hd h k
  | i2c  =>
    obtain rfl : len = 1 := by simpa [ri_lok, ri_ln] using hl
    exact ri_s_i2c C hd h k
  | goto kk =>
    obtain rfl : len = 3 := by simpa [ri_lok, ri_ln] using hl
    exact ri_s_goto C hd h k
  | ifnonnull kk =>
    obtain rfl : len = 3 := by simpa [ri_lok, ri_ln] using hl
    exact ri_s_ifnonnull C hd h k
  | ifnull kk =>
    obtain rfl : len = 3 := by simpa [ri_lok, ri_ln] using hl
    exact ri_s_ifnull C hd h k
  | getfield kk =>
    obtain rfl : len = 3 := by simpa [ri_lok, ri_ln] using hl
    exact ri_s_getfield C hd h k
  | putfield kk =>
    obtain rfl : len = 3 := by simpa [ri_lok, ri_ln] using hl
    exact ri_s_putfield C hd h k
  | iaload  =>
    obtain rfl : len = 1 := by simpa [ri_lok, ri_ln] using hl
    exact ri_s_iaload C hd h k
  | laload  =>
    obtain rfl : len = 1 := by simpa [ri_lok, ri_ln] using hl
    exact ri_s_laload C hd h k
  | aaload  =>
    obtain rfl : len = 1 := by simpa [ri_lok, ri_ln] using hl
    exact ri_s_aaload C hd h k
  | iastore  =>
    obtain rfl : len = 1 := by simpa [ri_lok, ri_ln] using hl
    exact ri_s_iastore C hd h k
  | lastore  =>
    obtain rfl : len = 1 := by simpa [ri_lok, ri_ln] using hl
    exact ri_s_lastore C hd h k
  | aastore  =>
    obtain rfl : len = 1 := by simpa [ri_lok, ri_ln] using hl
    exact ri_s_aastore C hd h k
  | arraylength  =>
    obtain rfl : len = 1 := by simpa [ri_lok, ri_ln] using hl
    exact ri_s_arraylength C hd h k
  | ldc2_w kk =>
    obtain rfl : len = 3 := by simpa [ri_lok, ri_ln] using hl
    exact ri_s_ldc2_w C hd h k
  | new kk =>
    obtain rfl : len = 3 := by simpa [ri_lok, ri_ln] using hl
    exact ri_s_new C hd h hn hR k
  | newarray kk =>
    obtain rfl : len = 2 := by simpa [ri_lok, ri_ln] using hl
    exact ri_s_newarray C hd h hn hR k
  | anewarray kk =>
    obtain rfl : len = 3 := by simpa [ri_lok, ri_ln] using hl
    exact ri_s_anewarray C hd h hn hR k
  | ifCond cc off =>
    obtain rfl : len = 3 := by simpa [ri_lok, ri_ln] using hl
    cases cc with
    | eq => exact ri_s_if_eq C hd h k
    | ne => exact ri_s_if_ne C hd h k
    | lt => exact ri_s_if_lt C hd h k
    | ge => exact ri_s_if_ge C hd h k
    | gt => exact ri_s_if_gt C hd h k
    | le => exact ri_s_if_le C hd h k
  | if_icmp cc off =>
    obtain rfl : len = 3 := by simpa [ri_lok, ri_ln] using hl
    cases cc with
    | eq => exact ri_s_ic_eq C hd h k
    | ne => exact ri_s_ic_ne C hd h k
    | lt => exact ri_s_ic_lt C hd h k
    | ge => exact ri_s_ic_ge C hd h k
    | gt => exact ri_s_ic_gt C hd h k
    | le => exact ri_s_ic_le C hd h k
  | tableswitch d lo hi os => exact ri_s_tableswitch C hd h k
  | lookupswitch d ps => exact ri_s_lookupswitch C hd h k
  | invokevirtual ix =>
    exfalso
    simp only [ri_ex, ri_xiv, ri_call] at h
    repeat' split at h
    all_goals cases h
  | invokestatic ix =>
    obtain rfl : len = 3 := by simpa [ri_lok, ri_ln] using hl
    simp only [ri_ex] at h
    unfold ri_xis_ at h
    split at h
    · rename_i e0 he
      split at h
      · exfalso
        split at h
        · simp [ri_call] at h
        · cases h
      · split at h
        · rename_i hrk
          split at h
          · rename_i h5
            exact ri_s_min C he h5 hrk hd h hR k
          · split at h
            · rename_i h5
              exact ri_s_max C he h5 hrk hd h hR k
            · split at h
              · rename_i h5
                exact ri_s_copy C he h5 hrk hd h k
              · cases h
        · cases h
    · cases h
  | invokespecial ix =>
    obtain rfl : len = 3 := by simpa [ri_lok, ri_ln] using hl
    simp only [ri_ex] at h
    unfold ri_xip at h
    split at h
    · rename_i e0 he
      split at h
      · exfalso
        split at h
        · split at h
          · simp [ri_call] at h
          · cases h
        · cases h
      · split at h
        · rename_i h5
          split at h
          · split at h
            · rename_i hsh
              cases h
              exact ri_s_obj C he h5.1 h5.2 hsh hd k
            · cases h
          · cases h
        · cases h
    · cases h
  | ireturn =>
    exfalso
    simp only [ri_ex, ri_xir, ri_ret] at h
    repeat' split at h
    all_goals cases h
  | areturn =>
    exfalso
    simp only [ri_ex, ri_xar, ri_ret] at h
    repeat' split at h
    all_goals cases h
  | lreturn =>
    exfalso
    simp only [ri_ex, ri_xlr, ri_ret] at h
    repeat' split at h
    all_goals cases h
  | return_ =>
    exfalso
    simp only [ri_ex, ri_xvr, ri_ret] at h
    repeat' split at h
    all_goals cases h
  | _ => cases h
end
