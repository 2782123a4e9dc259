section
variable {y : Nat} {sc : Nat × (Nat → Int32)} {pc : Nat} {ls : ri_L} {st : List Value} {w : ri_W}
theorem ri_pf_eq {a ci k : Nat} {v : Value} {w' : ri_W} (h : ri_pf w a ci k v = some w') : ∃ fs, w[a]? = some (ri_O ci fs) ∧ w' = w.set a (ri_O ci (fs.set k v)) := by
  unfold ri_pf at h
  split at h
  · rename_i ci' fs ho
    split at h
    · rename_i hc
      cases h
      rw [← hc.1]
      exact ⟨fs, ri_gO_eq ho, rfl⟩
    · cases h
  · cases h
theorem ri_mono_set {a : Nat} {e e' : ri_E} (h : w[a]? = some e') (hs : ri_sz e = ri_sz e') : w.length ≤ (w.set a e).length ∧ ri_ns w ≤ ri_ns (w.set a e) := by
  rw [ri_ns_set h hs, List.length_set]
  exact ⟨Nat.le_refl _, Nat.le_refl _⟩
theorem ri_mono_push {e : ri_E} : w.length ≤ (w ++ [e]).length ∧ ri_ns w ≤ ri_ns (w ++ [e]) := by
  rw [ri_ns_push, List.length_append]
  exact ⟨Nat.le_add_right _ _, Nat.le_add_right _ _⟩
/-- a step makes a world no smaller -/
theorem ri_ex_mono {i : Instr} {c' : ri_C} (h : ri_ex y sc i pc ls st w = some (.inl c')) : w.length ≤ c'.2.2.2.length ∧ ri_ns w ≤ ri_ns c'.2.2.2 := by
  cases i with
  | aload_n =>
    simp only [ri_ex, ri_xla, ri_xli, ri_xll, ri_xsi, ri_xsa, ri_xsl, ri_xinc, ri_xdup, ri_xdup2, ri_x2, ri_xd, ri_x2l, ri_xsh, ri_xl2i, ri_xi2c, ri_xcm, ri_xi2l, ri_xpop, ri_xldi, ri_xif, ri_xic, ri_xnn, ri_xnu, ri_xts, ri_xlo, ri_xgf, ri_xpf, ri_xia, ri_xja, ri_xaa, ri_xis, ri_xjs, ri_xas, ri_xal, ri_xnew, ri_xna, ri_xan, ri_xld, ri_xcp, ri_xmn, ri_xmx, ri_jmp, ri_nx] at h
    repeat' split at h
    all_goals (cases h <;> exact ⟨Nat.le_refl _, Nat.le_refl _⟩)
  | iload_n =>
    simp only [ri_ex, ri_xla, ri_xli, ri_xll, ri_xsi, ri_xsa, ri_xsl, ri_xinc, ri_xdup, ri_xdup2, ri_x2, ri_xd, ri_x2l, ri_xsh, ri_xl2i, ri_xi2c, ri_xcm, ri_xi2l, ri_xpop, ri_xldi, ri_xif, ri_xic, ri_xnn, ri_xnu, ri_xts, ri_xlo, ri_xgf, ri_xpf, ri_xia, ri_xja, ri_xaa, ri_xis, ri_xjs, ri_xas, ri_xal, ri_xnew, ri_xna, ri_xan, ri_xld, ri_xcp, ri_xmn, ri_xmx, ri_jmp, ri_nx] at h
    repeat' split at h
    all_goals (cases h <;> exact ⟨Nat.le_refl _, Nat.le_refl _⟩)
  | iload =>
    simp only [ri_ex, ri_xla, ri_xli, ri_xll, ri_xsi, ri_xsa, ri_xsl, ri_xinc, ri_xdup, ri_xdup2, ri_x2, ri_xd, ri_x2l, ri_xsh, ri_xl2i, ri_xi2c, ri_xcm, ri_xi2l, ri_xpop, ri_xldi, ri_xif, ri_xic, ri_xnn, ri_xnu, ri_xts, ri_xlo, ri_xgf, ri_xpf, ri_xia, ri_xja, ri_xaa, ri_xis, ri_xjs, ri_xas, ri_xal, ri_xnew, ri_xna, ri_xan, ri_xld, ri_xcp, ri_xmn, ri_xmx, ri_jmp, ri_nx] at h
    repeat' split at h
    all_goals (cases h <;> exact ⟨Nat.le_refl _, Nat.le_refl _⟩)
  | lload_n =>
    simp only [ri_ex, ri_xla, ri_xli, ri_xll, ri_xsi, ri_xsa, ri_xsl, ri_xinc, ri_xdup, ri_xdup2, ri_x2, ri_xd, ri_x2l, ri_xsh, ri_xl2i, ri_xi2c, ri_xcm, ri_xi2l, ri_xpop, ri_xldi, ri_xif, ri_xic, ri_xnn, ri_xnu, ri_xts, ri_xlo, ri_xgf, ri_xpf, ri_xia, ri_xja, ri_xaa, ri_xis, ri_xjs, ri_xas, ri_xal, ri_xnew, ri_xna, ri_xan, ri_xld, ri_xcp, ri_xmn, ri_xmx, ri_jmp, ri_nx] at h
    repeat' split at h
    all_goals (cases h <;> exact ⟨Nat.le_refl _, Nat.le_refl _⟩)
  | lload =>
    simp only [ri_ex, ri_xla, ri_xli, ri_xll, ri_xsi, ri_xsa, ri_xsl, ri_xinc, ri_xdup, ri_xdup2, ri_x2, ri_xd, ri_x2l, ri_xsh, ri_xl2i, ri_xi2c, ri_xcm, ri_xi2l, ri_xpop, ri_xldi, ri_xif, ri_xic, ri_xnn, ri_xnu, ri_xts, ri_xlo, ri_xgf, ri_xpf, ri_xia, ri_xja, ri_xaa, ri_xis, ri_xjs, ri_xas, ri_xal, ri_xnew, ri_xna, ri_xan, ri_xld, ri_xcp, ri_xmn, ri_xmx, ri_jmp, ri_nx] at h
    repeat' split at h
    all_goals (cases h <;> exact ⟨Nat.le_refl _, Nat.le_refl _⟩)
  | iconst =>
    simp only [ri_ex, ri_xla, ri_xli, ri_xll, ri_xsi, ri_xsa, ri_xsl, ri_xinc, ri_xdup, ri_xdup2, ri_x2, ri_xd, ri_x2l, ri_xsh, ri_xl2i, ri_xi2c, ri_xcm, ri_xi2l, ri_xpop, ri_xldi, ri_xif, ri_xic, ri_xnn, ri_xnu, ri_xts, ri_xlo, ri_xgf, ri_xpf, ri_xia, ri_xja, ri_xaa, ri_xis, ri_xjs, ri_xas, ri_xal, ri_xnew, ri_xna, ri_xan, ri_xld, ri_xcp, ri_xmn, ri_xmx, ri_jmp, ri_nx] at h
    repeat' split at h
    all_goals (cases h <;> exact ⟨Nat.le_refl _, Nat.le_refl _⟩)
  | bipush =>
    simp only [ri_ex, ri_xla, ri_xli, ri_xll, ri_xsi, ri_xsa, ri_xsl, ri_xinc, ri_xdup, ri_xdup2, ri_x2, ri_xd, ri_x2l, ri_xsh, ri_xl2i, ri_xi2c, ri_xcm, ri_xi2l, ri_xpop, ri_xldi, ri_xif, ri_xic, ri_xnn, ri_xnu, ri_xts, ri_xlo, ri_xgf, ri_xpf, ri_xia, ri_xja, ri_xaa, ri_xis, ri_xjs, ri_xas, ri_xal, ri_xnew, ri_xna, ri_xan, ri_xld, ri_xcp, ri_xmn, ri_xmx, ri_jmp, ri_nx] at h
    repeat' split at h
    all_goals (cases h <;> exact ⟨Nat.le_refl _, Nat.le_refl _⟩)
  | sipush =>
    simp only [ri_ex, ri_xla, ri_xli, ri_xll, ri_xsi, ri_xsa, ri_xsl, ri_xinc, ri_xdup, ri_xdup2, ri_x2, ri_xd, ri_x2l, ri_xsh, ri_xl2i, ri_xi2c, ri_xcm, ri_xi2l, ri_xpop, ri_xldi, ri_xif, ri_xic, ri_xnn, ri_xnu, ri_xts, ri_xlo, ri_xgf, ri_xpf, ri_xia, ri_xja, ri_xaa, ri_xis, ri_xjs, ri_xas, ri_xal, ri_xnew, ri_xna, ri_xan, ri_xld, ri_xcp, ri_xmn, ri_xmx, ri_jmp, ri_nx] at h
    repeat' split at h
    all_goals (cases h <;> exact ⟨Nat.le_refl _, Nat.le_refl _⟩)
  | lconst =>
    simp only [ri_ex, ri_xla, ri_xli, ri_xll, ri_xsi, ri_xsa, ri_xsl, ri_xinc, ri_xdup, ri_xdup2, ri_x2, ri_xd, ri_x2l, ri_xsh, ri_xl2i, ri_xi2c, ri_xcm, ri_xi2l, ri_xpop, ri_xldi, ri_xif, ri_xic, ri_xnn, ri_xnu, ri_xts, ri_xlo, ri_xgf, ri_xpf, ri_xia, ri_xja, ri_xaa, ri_xis, ri_xjs, ri_xas, ri_xal, ri_xnew, ri_xna, ri_xan, ri_xld, ri_xcp, ri_xmn, ri_xmx, ri_jmp, ri_nx] at h
    repeat' split at h
    all_goals (cases h <;> exact ⟨Nat.le_refl _, Nat.le_refl _⟩)
  | istore_n =>
    simp only [ri_ex, ri_xla, ri_xli, ri_xll, ri_xsi, ri_xsa, ri_xsl, ri_xinc, ri_xdup, ri_xdup2, ri_x2, ri_xd, ri_x2l, ri_xsh, ri_xl2i, ri_xi2c, ri_xcm, ri_xi2l, ri_xpop, ri_xldi, ri_xif, ri_xic, ri_xnn, ri_xnu, ri_xts, ri_xlo, ri_xgf, ri_xpf, ri_xia, ri_xja, ri_xaa, ri_xis, ri_xjs, ri_xas, ri_xal, ri_xnew, ri_xna, ri_xan, ri_xld, ri_xcp, ri_xmn, ri_xmx, ri_jmp, ri_nx] at h
    repeat' split at h
    all_goals (cases h <;> exact ⟨Nat.le_refl _, Nat.le_refl _⟩)
  | istore =>
    simp only [ri_ex, ri_xla, ri_xli, ri_xll, ri_xsi, ri_xsa, ri_xsl, ri_xinc, ri_xdup, ri_xdup2, ri_x2, ri_xd, ri_x2l, ri_xsh, ri_xl2i, ri_xi2c, ri_xcm, ri_xi2l, ri_xpop, ri_xldi, ri_xif, ri_xic, ri_xnn, ri_xnu, ri_xts, ri_xlo, ri_xgf, ri_xpf, ri_xia, ri_xja, ri_xaa, ri_xis, ri_xjs, ri_xas, ri_xal, ri_xnew, ri_xna, ri_xan, ri_xld, ri_xcp, ri_xmn, ri_xmx, ri_jmp, ri_nx] at h
    repeat' split at h
    all_goals (cases h <;> exact ⟨Nat.le_refl _, Nat.le_refl _⟩)
  | astore_n =>
    simp only [ri_ex, ri_xla, ri_xli, ri_xll, ri_xsi, ri_xsa, ri_xsl, ri_xinc, ri_xdup, ri_xdup2, ri_x2, ri_xd, ri_x2l, ri_xsh, ri_xl2i, ri_xi2c, ri_xcm, ri_xi2l, ri_xpop, ri_xldi, ri_xif, ri_xic, ri_xnn, ri_xnu, ri_xts, ri_xlo, ri_xgf, ri_xpf, ri_xia, ri_xja, ri_xaa, ri_xis, ri_xjs, ri_xas, ri_xal, ri_xnew, ri_xna, ri_xan, ri_xld, ri_xcp, ri_xmn, ri_xmx, ri_jmp, ri_nx] at h
    repeat' split at h
    all_goals (cases h <;> exact ⟨Nat.le_refl _, Nat.le_refl _⟩)
  | lstore_n =>
    simp only [ri_ex, ri_xla, ri_xli, ri_xll, ri_xsi, ri_xsa, ri_xsl, ri_xinc, ri_xdup, ri_xdup2, ri_x2, ri_xd, ri_x2l, ri_xsh, ri_xl2i, ri_xi2c, ri_xcm, ri_xi2l, ri_xpop, ri_xldi, ri_xif, ri_xic, ri_xnn, ri_xnu, ri_xts, ri_xlo, ri_xgf, ri_xpf, ri_xia, ri_xja, ri_xaa, ri_xis, ri_xjs, ri_xas, ri_xal, ri_xnew, ri_xna, ri_xan, ri_xld, ri_xcp, ri_xmn, ri_xmx, ri_jmp, ri_nx] at h
    repeat' split at h
    all_goals (cases h <;> exact ⟨Nat.le_refl _, Nat.le_refl _⟩)
  | lstore =>
    simp only [ri_ex, ri_xla, ri_xli, ri_xll, ri_xsi, ri_xsa, ri_xsl, ri_xinc, ri_xdup, ri_xdup2, ri_x2, ri_xd, ri_x2l, ri_xsh, ri_xl2i, ri_xi2c, ri_xcm, ri_xi2l, ri_xpop, ri_xldi, ri_xif, ri_xic, ri_xnn, ri_xnu, ri_xts, ri_xlo, ri_xgf, ri_xpf, ri_xia, ri_xja, ri_xaa, ri_xis, ri_xjs, ri_xas, ri_xal, ri_xnew, ri_xna, ri_xan, ri_xld, ri_xcp, ri_xmn, ri_xmx, ri_jmp, ri_nx] at h
    repeat' split at h
    all_goals (cases h <;> exact ⟨Nat.le_refl _, Nat.le_refl _⟩)
  | iinc =>
    simp only [ri_ex, ri_xla, ri_xli, ri_xll, ri_xsi, ri_xsa, ri_xsl, ri_xinc, ri_xdup, ri_xdup2, ri_x2, ri_xd, ri_x2l, ri_xsh, ri_xl2i, ri_xi2c, ri_xcm, ri_xi2l, ri_xpop, ri_xldi, ri_xif, ri_xic, ri_xnn, ri_xnu, ri_xts, ri_xlo, ri_xgf, ri_xpf, ri_xia, ri_xja, ri_xaa, ri_xis, ri_xjs, ri_xas, ri_xal, ri_xnew, ri_xna, ri_xan, ri_xld, ri_xcp, ri_xmn, ri_xmx, ri_jmp, ri_nx] at h
    repeat' split at h
    all_goals (cases h <;> exact ⟨Nat.le_refl _, Nat.le_refl _⟩)
  | dup =>
    simp only [ri_ex, ri_xla, ri_xli, ri_xll, ri_xsi, ri_xsa, ri_xsl, ri_xinc, ri_xdup, ri_xdup2, ri_x2, ri_xd, ri_x2l, ri_xsh, ri_xl2i, ri_xi2c, ri_xcm, ri_xi2l, ri_xpop, ri_xldi, ri_xif, ri_xic, ri_xnn, ri_xnu, ri_xts, ri_xlo, ri_xgf, ri_xpf, ri_xia, ri_xja, ri_xaa, ri_xis, ri_xjs, ri_xas, ri_xal, ri_xnew, ri_xna, ri_xan, ri_xld, ri_xcp, ri_xmn, ri_xmx, ri_jmp, ri_nx] at h
    repeat' split at h
    all_goals (cases h <;> exact ⟨Nat.le_refl _, Nat.le_refl _⟩)
  | dup2 =>
    simp only [ri_ex, ri_xla, ri_xli, ri_xll, ri_xsi, ri_xsa, ri_xsl, ri_xinc, ri_xdup, ri_xdup2, ri_x2, ri_xd, ri_x2l, ri_xsh, ri_xl2i, ri_xi2c, ri_xcm, ri_xi2l, ri_xpop, ri_xldi, ri_xif, ri_xic, ri_xnn, ri_xnu, ri_xts, ri_xlo, ri_xgf, ri_xpf, ri_xia, ri_xja, ri_xaa, ri_xis, ri_xjs, ri_xas, ri_xal, ri_xnew, ri_xna, ri_xan, ri_xld, ri_xcp, ri_xmn, ri_xmx, ri_jmp, ri_nx] at h
    repeat' split at h
    all_goals (cases h <;> exact ⟨Nat.le_refl _, Nat.le_refl _⟩)
  | iadd =>
    simp only [ri_ex, ri_xla, ri_xli, ri_xll, ri_xsi, ri_xsa, ri_xsl, ri_xinc, ri_xdup, ri_xdup2, ri_x2, ri_xd, ri_x2l, ri_xsh, ri_xl2i, ri_xi2c, ri_xcm, ri_xi2l, ri_xpop, ri_xldi, ri_xif, ri_xic, ri_xnn, ri_xnu, ri_xts, ri_xlo, ri_xgf, ri_xpf, ri_xia, ri_xja, ri_xaa, ri_xis, ri_xjs, ri_xas, ri_xal, ri_xnew, ri_xna, ri_xan, ri_xld, ri_xcp, ri_xmn, ri_xmx, ri_jmp, ri_nx] at h
    repeat' split at h
    all_goals (cases h <;> exact ⟨Nat.le_refl _, Nat.le_refl _⟩)
  | isub =>
    simp only [ri_ex, ri_xla, ri_xli, ri_xll, ri_xsi, ri_xsa, ri_xsl, ri_xinc, ri_xdup, ri_xdup2, ri_x2, ri_xd, ri_x2l, ri_xsh, ri_xl2i, ri_xi2c, ri_xcm, ri_xi2l, ri_xpop, ri_xldi, ri_xif, ri_xic, ri_xnn, ri_xnu, ri_xts, ri_xlo, ri_xgf, ri_xpf, ri_xia, ri_xja, ri_xaa, ri_xis, ri_xjs, ri_xas, ri_xal, ri_xnew, ri_xna, ri_xan, ri_xld, ri_xcp, ri_xmn, ri_xmx, ri_jmp, ri_nx] at h
    repeat' split at h
    all_goals (cases h <;> exact ⟨Nat.le_refl _, Nat.le_refl _⟩)
  | imul =>
    simp only [ri_ex, ri_xla, ri_xli, ri_xll, ri_xsi, ri_xsa, ri_xsl, ri_xinc, ri_xdup, ri_xdup2, ri_x2, ri_xd, ri_x2l, ri_xsh, ri_xl2i, ri_xi2c, ri_xcm, ri_xi2l, ri_xpop, ri_xldi, ri_xif, ri_xic, ri_xnn, ri_xnu, ri_xts, ri_xlo, ri_xgf, ri_xpf, ri_xia, ri_xja, ri_xaa, ri_xis, ri_xjs, ri_xas, ri_xal, ri_xnew, ri_xna, ri_xan, ri_xld, ri_xcp, ri_xmn, ri_xmx, ri_jmp, ri_nx] at h
    repeat' split at h
    all_goals (cases h <;> exact ⟨Nat.le_refl _, Nat.le_refl _⟩)
  | iand =>
    simp only [ri_ex, ri_xla, ri_xli, ri_xll, ri_xsi, ri_xsa, ri_xsl, ri_xinc, ri_xdup, ri_xdup2, ri_x2, ri_xd, ri_x2l, ri_xsh, ri_xl2i, ri_xi2c, ri_xcm, ri_xi2l, ri_xpop, ri_xldi, ri_xif, ri_xic, ri_xnn, ri_xnu, ri_xts, ri_xlo, ri_xgf, ri_xpf, ri_xia, ri_xja, ri_xaa, ri_xis, ri_xjs, ri_xas, ri_xal, ri_xnew, ri_xna, ri_xan, ri_xld, ri_xcp, ri_xmn, ri_xmx, ri_jmp, ri_nx] at h
    repeat' split at h
    all_goals (cases h <;> exact ⟨Nat.le_refl _, Nat.le_refl _⟩)
  | ixor =>
    simp only [ri_ex, ri_xla, ri_xli, ri_xll, ri_xsi, ri_xsa, ri_xsl, ri_xinc, ri_xdup, ri_xdup2, ri_x2, ri_xd, ri_x2l, ri_xsh, ri_xl2i, ri_xi2c, ri_xcm, ri_xi2l, ri_xpop, ri_xldi, ri_xif, ri_xic, ri_xnn, ri_xnu, ri_xts, ri_xlo, ri_xgf, ri_xpf, ri_xia, ri_xja, ri_xaa, ri_xis, ri_xjs, ri_xas, ri_xal, ri_xnew, ri_xna, ri_xan, ri_xld, ri_xcp, ri_xmn, ri_xmx, ri_jmp, ri_nx] at h
    repeat' split at h
    all_goals (cases h <;> exact ⟨Nat.le_refl _, Nat.le_refl _⟩)
  | ior =>
    simp only [ri_ex, ri_xla, ri_xli, ri_xll, ri_xsi, ri_xsa, ri_xsl, ri_xinc, ri_xdup, ri_xdup2, ri_x2, ri_xd, ri_x2l, ri_xsh, ri_xl2i, ri_xi2c, ri_xcm, ri_xi2l, ri_xpop, ri_xldi, ri_xif, ri_xic, ri_xnn, ri_xnu, ri_xts, ri_xlo, ri_xgf, ri_xpf, ri_xia, ri_xja, ri_xaa, ri_xis, ri_xjs, ri_xas, ri_xal, ri_xnew, ri_xna, ri_xan, ri_xld, ri_xcp, ri_xmn, ri_xmx, ri_jmp, ri_nx] at h
    repeat' split at h
    all_goals (cases h <;> exact ⟨Nat.le_refl _, Nat.le_refl _⟩)
  | ishr =>
    simp only [ri_ex, ri_xla, ri_xli, ri_xll, ri_xsi, ri_xsa, ri_xsl, ri_xinc, ri_xdup, ri_xdup2, ri_x2, ri_xd, ri_x2l, ri_xsh, ri_xl2i, ri_xi2c, ri_xcm, ri_xi2l, ri_xpop, ri_xldi, ri_xif, ri_xic, ri_xnn, ri_xnu, ri_xts, ri_xlo, ri_xgf, ri_xpf, ri_xia, ri_xja, ri_xaa, ri_xis, ri_xjs, ri_xas, ri_xal, ri_xnew, ri_xna, ri_xan, ri_xld, ri_xcp, ri_xmn, ri_xmx, ri_jmp, ri_nx] at h
    repeat' split at h
    all_goals (cases h <;> exact ⟨Nat.le_refl _, Nat.le_refl _⟩)
  | lmul =>
    simp only [ri_ex, ri_xla, ri_xli, ri_xll, ri_xsi, ri_xsa, ri_xsl, ri_xinc, ri_xdup, ri_xdup2, ri_x2, ri_xd, ri_x2l, ri_xsh, ri_xl2i, ri_xi2c, ri_xcm, ri_xi2l, ri_xpop, ri_xldi, ri_xif, ri_xic, ri_xnn, ri_xnu, ri_xts, ri_xlo, ri_xgf, ri_xpf, ri_xia, ri_xja, ri_xaa, ri_xis, ri_xjs, ri_xas, ri_xal, ri_xnew, ri_xna, ri_xan, ri_xld, ri_xcp, ri_xmn, ri_xmx, ri_jmp, ri_nx] at h
    repeat' split at h
    all_goals (cases h <;> exact ⟨Nat.le_refl _, Nat.le_refl _⟩)
  | lcmp =>
    simp only [ri_ex, ri_xla, ri_xli, ri_xll, ri_xsi, ri_xsa, ri_xsl, ri_xinc, ri_xdup, ri_xdup2, ri_x2, ri_xd, ri_x2l, ri_xsh, ri_xl2i, ri_xi2c, ri_xcm, ri_xi2l, ri_xpop, ri_xldi, ri_xif, ri_xic, ri_xnn, ri_xnu, ri_xts, ri_xlo, ri_xgf, ri_xpf, ri_xia, ri_xja, ri_xaa, ri_xis, ri_xjs, ri_xas, ri_xal, ri_xnew, ri_xna, ri_xan, ri_xld, ri_xcp, ri_xmn, ri_xmx, ri_jmp, ri_nx] at h
    repeat' split at h
    all_goals (cases h <;> exact ⟨Nat.le_refl _, Nat.le_refl _⟩)
  | i2l =>
    simp only [ri_ex, ri_xla, ri_xli, ri_xll, ri_xsi, ri_xsa, ri_xsl, ri_xinc, ri_xdup, ri_xdup2, ri_x2, ri_xd, ri_x2l, ri_xsh, ri_xl2i, ri_xi2c, ri_xcm, ri_xi2l, ri_xpop, ri_xldi, ri_xif, ri_xic, ri_xnn, ri_xnu, ri_xts, ri_xlo, ri_xgf, ri_xpf, ri_xia, ri_xja, ri_xaa, ri_xis, ri_xjs, ri_xas, ri_xal, ri_xnew, ri_xna, ri_xan, ri_xld, ri_xcp, ri_xmn, ri_xmx, ri_jmp, ri_nx] at h
    repeat' split at h
    all_goals (cases h <;> exact ⟨Nat.le_refl _, Nat.le_refl _⟩)
  | pop =>
    simp only [ri_ex, ri_xla, ri_xli, ri_xll, ri_xsi, ri_xsa, ri_xsl, ri_xinc, ri_xdup, ri_xdup2, ri_x2, ri_xd, ri_x2l, ri_xsh, ri_xl2i, ri_xi2c, ri_xcm, ri_xi2l, ri_xpop, ri_xldi, ri_xif, ri_xic, ri_xnn, ri_xnu, ri_xts, ri_xlo, ri_xgf, ri_xpf, ri_xia, ri_xja, ri_xaa, ri_xis, ri_xjs, ri_xas, ri_xal, ri_xnew, ri_xna, ri_xan, ri_xld, ri_xcp, ri_xmn, ri_xmx, ri_jmp, ri_nx] at h
    repeat' split at h
    all_goals (cases h <;> exact ⟨Nat.le_refl _, Nat.le_refl _⟩)
  | ldc =>
    simp only [ri_ex, ri_xla, ri_xli, ri_xll, ri_xsi, ri_xsa, ri_xsl, ri_xinc, ri_xdup, ri_xdup2, ri_x2, ri_xd, ri_x2l, ri_xsh, ri_xl2i, ri_xi2c, ri_xcm, ri_xi2l, ri_xpop, ri_xldi, ri_xif, ri_xic, ri_xnn, ri_xnu, ri_xts, ri_xlo, ri_xgf, ri_xpf, ri_xia, ri_xja, ri_xaa, ri_xis, ri_xjs, ri_xas, ri_xal, ri_xnew, ri_xna, ri_xan, ri_xld, ri_xcp, ri_xmn, ri_xmx, ri_jmp, ri_nx] at h
    repeat' split at h
    all_goals (cases h <;> exact ⟨Nat.le_refl _, Nat.le_refl _⟩)
  | idiv =>
    simp only [ri_ex, ri_xla, ri_xli, ri_xll, ri_xsi, ri_xsa, ri_xsl, ri_xinc, ri_xdup, ri_xdup2, ri_x2, ri_xd, ri_x2l, ri_xsh, ri_xl2i, ri_xi2c, ri_xcm, ri_xi2l, ri_xpop, ri_xldi, ri_xif, ri_xic, ri_xnn, ri_xnu, ri_xts, ri_xlo, ri_xgf, ri_xpf, ri_xia, ri_xja, ri_xaa, ri_xis, ri_xjs, ri_xas, ri_xal, ri_xnew, ri_xna, ri_xan, ri_xld, ri_xcp, ri_xmn, ri_xmx, ri_jmp, ri_nx] at h
    repeat' split at h
    all_goals (cases h <;> exact ⟨Nat.le_refl _, Nat.le_refl _⟩)
  | irem =>
    simp only [ri_ex, ri_xla, ri_xli, ri_xll, ri_xsi, ri_xsa, ri_xsl, ri_xinc, ri_xdup, ri_xdup2, ri_x2, ri_xd, ri_x2l, ri_xsh, ri_xl2i, ri_xi2c, ri_xcm, ri_xi2l, ri_xpop, ri_xldi, ri_xif, ri_xic, ri_xnn, ri_xnu, ri_xts, ri_xlo, ri_xgf, ri_xpf, ri_xia, ri_xja, ri_xaa, ri_xis, ri_xjs, ri_xas, ri_xal, ri_xnew, ri_xna, ri_xan, ri_xld, ri_xcp, ri_xmn, ri_xmx, ri_jmp, ri_nx] at h
    repeat' split at h
    all_goals (cases h <;> exact ⟨Nat.le_refl _, Nat.le_refl _⟩)
  | ladd =>
    simp only [ri_ex, ri_xla, ri_xli, ri_xll, ri_xsi, ri_xsa, ri_xsl, ri_xinc, ri_xdup, ri_xdup2, ri_x2, ri_xd, ri_x2l, ri_xsh, ri_xl2i, ri_xi2c, ri_xcm, ri_xi2l, ri_xpop, ri_xldi, ri_xif, ri_xic, ri_xnn, ri_xnu, ri_xts, ri_xlo, ri_xgf, ri_xpf, ri_xia, ri_xja, ri_xaa, ri_xis, ri_xjs, ri_xas, ri_xal, ri_xnew, ri_xna, ri_xan, ri_xld, ri_xcp, ri_xmn, ri_xmx, ri_jmp, ri_nx] at h
    repeat' split at h
    all_goals (cases h <;> exact ⟨Nat.le_refl _, Nat.le_refl _⟩)
  | lsub =>
    simp only [ri_ex, ri_xla, ri_xli, ri_xll, ri_xsi, ri_xsa, ri_xsl, ri_xinc, ri_xdup, ri_xdup2, ri_x2, ri_xd, ri_x2l, ri_xsh, ri_xl2i, ri_xi2c, ri_xcm, ri_xi2l, ri_xpop, ri_xldi, ri_xif, ri_xic, ri_xnn, ri_xnu, ri_xts, ri_xlo, ri_xgf, ri_xpf, ri_xia, ri_xja, ri_xaa, ri_xis, ri_xjs, ri_xas, ri_xal, ri_xnew, ri_xna, ri_xan, ri_xld, ri_xcp, ri_xmn, ri_xmx, ri_jmp, ri_nx] at h
    repeat' split at h
    all_goals (cases h <;> exact ⟨Nat.le_refl _, Nat.le_refl _⟩)
  | land =>
    simp only [ri_ex, ri_xla, ri_xli, ri_xll, ri_xsi, ri_xsa, ri_xsl, ri_xinc, ri_xdup, ri_xdup2, ri_x2, ri_xd, ri_x2l, ri_xsh, ri_xl2i, ri_xi2c, ri_xcm, ri_xi2l, ri_xpop, ri_xldi, ri_xif, ri_xic, ri_xnn, ri_xnu, ri_xts, ri_xlo, ri_xgf, ri_xpf, ri_xia, ri_xja, ri_xaa, ri_xis, ri_xjs, ri_xas, ri_xal, ri_xnew, ri_xna, ri_xan, ri_xld, ri_xcp, ri_xmn, ri_xmx, ri_jmp, ri_nx] at h
    repeat' split at h
    all_goals (cases h <;> exact ⟨Nat.le_refl _, Nat.le_refl _⟩)
  | lor =>
    simp only [ri_ex, ri_xla, ri_xli, ri_xll, ri_xsi, ri_xsa, ri_xsl, ri_xinc, ri_xdup, ri_xdup2, ri_x2, ri_xd, ri_x2l, ri_xsh, ri_xl2i, ri_xi2c, ri_xcm, ri_xi2l, ri_xpop, ri_xldi, ri_xif, ri_xic, ri_xnn, ri_xnu, ri_xts, ri_xlo, ri_xgf, ri_xpf, ri_xia, ri_xja, ri_xaa, ri_xis, ri_xjs, ri_xas, ri_xal, ri_xnew, ri_xna, ri_xan, ri_xld, ri_xcp, ri_xmn, ri_xmx, ri_jmp, ri_nx] at h
    repeat' split at h
    all_goals (cases h <;> exact ⟨Nat.le_refl _, Nat.le_refl _⟩)
  | lxor =>
    simp only [ri_ex, ri_xla, ri_xli, ri_xll, ri_xsi, ri_xsa, ri_xsl, ri_xinc, ri_xdup, ri_xdup2, ri_x2, ri_xd, ri_x2l, ri_xsh, ri_xl2i, ri_xi2c, ri_xcm, ri_xi2l, ri_xpop, ri_xldi, ri_xif, ri_xic, ri_xnn, ri_xnu, ri_xts, ri_xlo, ri_xgf, ri_xpf, ri_xia, ri_xja, ri_xaa, ri_xis, ri_xjs, ri_xas, ri_xal, ri_xnew, ri_xna, ri_xan, ri_xld, ri_xcp, ri_xmn, ri_xmx, ri_jmp, ri_nx] at h
    repeat' split at h
    all_goals (cases h <;> exact ⟨Nat.le_refl _, Nat.le_refl _⟩)
  | lshl =>
    simp only [ri_ex, ri_xla, ri_xli, ri_xll, ri_xsi, ri_xsa, ri_xsl, ri_xinc, ri_xdup, ri_xdup2, ri_x2, ri_xd, ri_x2l, ri_xsh, ri_xl2i, ri_xi2c, ri_xcm, ri_xi2l, ri_xpop, ri_xldi, ri_xif, ri_xic, ri_xnn, ri_xnu, ri_xts, ri_xlo, ri_xgf, ri_xpf, ri_xia, ri_xja, ri_xaa, ri_xis, ri_xjs, ri_xas, ri_xal, ri_xnew, ri_xna, ri_xan, ri_xld, ri_xcp, ri_xmn, ri_xmx, ri_jmp, ri_nx] at h
    repeat' split at h
    all_goals (cases h <;> exact ⟨Nat.le_refl _, Nat.le_refl _⟩)
  | lushr =>
    simp only [ri_ex, ri_xla, ri_xli, ri_xll, ri_xsi, ri_xsa, ri_xsl, ri_xinc, ri_xdup, ri_xdup2, ri_x2, ri_xd, ri_x2l, ri_xsh, ri_xl2i, ri_xi2c, ri_xcm, ri_xi2l, ri_xpop, ri_xldi, ri_xif, ri_xic, ri_xnn, ri_xnu, ri_xts, ri_xlo, ri_xgf, ri_xpf, ri_xia, ri_xja, ri_xaa, ri_xis, ri_xjs, ri_xas, ri_xal, ri_xnew, ri_xna, ri_xan, ri_xld, ri_xcp, ri_xmn, ri_xmx, ri_jmp, ri_nx] at h
    repeat' split at h
    all_goals (cases h <;> exact ⟨Nat.le_refl _, Nat.le_refl _⟩)
  | l2i =>
    simp only [ri_ex, ri_xla, ri_xli, ri_xll, ri_xsi, ri_xsa, ri_xsl, ri_xinc, ri_xdup, ri_xdup2, ri_x2, ri_xd, ri_x2l, ri_xsh, ri_xl2i, ri_xi2c, ri_xcm, ri_xi2l, ri_xpop, ri_xldi, ri_xif, ri_xic, ri_xnn, ri_xnu, ri_xts, ri_xlo, ri_xgf, ri_xpf, ri_xia, ri_xja, ri_xaa, ri_xis, ri_xjs, ri_xas, ri_xal, ri_xnew, ri_xna, ri_xan, ri_xld, ri_xcp, ri_xmn, ri_xmx, ri_jmp, ri_nx] at h
    repeat' split at h
    all_goals (cases h <;> exact ⟨Nat.le_refl _, Nat.le_refl _⟩)
  | i2c =>
    simp only [ri_ex, ri_xla, ri_xli, ri_xll, ri_xsi, ri_xsa, ri_xsl, ri_xinc, ri_xdup, ri_xdup2, ri_x2, ri_xd, ri_x2l, ri_xsh, ri_xl2i, ri_xi2c, ri_xcm, ri_xi2l, ri_xpop, ri_xldi, ri_xif, ri_xic, ri_xnn, ri_xnu, ri_xts, ri_xlo, ri_xgf, ri_xpf, ri_xia, ri_xja, ri_xaa, ri_xis, ri_xjs, ri_xas, ri_xal, ri_xnew, ri_xna, ri_xan, ri_xld, ri_xcp, ri_xmn, ri_xmx, ri_jmp, ri_nx] at h
    repeat' split at h
    all_goals (cases h <;> exact ⟨Nat.le_refl _, Nat.le_refl _⟩)
  | goto =>
    simp only [ri_ex, ri_xla, ri_xli, ri_xll, ri_xsi, ri_xsa, ri_xsl, ri_xinc, ri_xdup, ri_xdup2, ri_x2, ri_xd, ri_x2l, ri_xsh, ri_xl2i, ri_xi2c, ri_xcm, ri_xi2l, ri_xpop, ri_xldi, ri_xif, ri_xic, ri_xnn, ri_xnu, ri_xts, ri_xlo, ri_xgf, ri_xpf, ri_xia, ri_xja, ri_xaa, ri_xis, ri_xjs, ri_xas, ri_xal, ri_xnew, ri_xna, ri_xan, ri_xld, ri_xcp, ri_xmn, ri_xmx, ri_jmp, ri_nx] at h
    repeat' split at h
    all_goals (cases h <;> exact ⟨Nat.le_refl _, Nat.le_refl _⟩)
  | ifCond =>
    simp only [ri_ex, ri_xla, ri_xli, ri_xll, ri_xsi, ri_xsa, ri_xsl, ri_xinc, ri_xdup, ri_xdup2, ri_x2, ri_xd, ri_x2l, ri_xsh, ri_xl2i, ri_xi2c, ri_xcm, ri_xi2l, ri_xpop, ri_xldi, ri_xif, ri_xic, ri_xnn, ri_xnu, ri_xts, ri_xlo, ri_xgf, ri_xpf, ri_xia, ri_xja, ri_xaa, ri_xis, ri_xjs, ri_xas, ri_xal, ri_xnew, ri_xna, ri_xan, ri_xld, ri_xcp, ri_xmn, ri_xmx, ri_jmp, ri_nx] at h
    repeat' split at h
    all_goals (cases h <;> exact ⟨Nat.le_refl _, Nat.le_refl _⟩)
  | if_icmp =>
    simp only [ri_ex, ri_xla, ri_xli, ri_xll, ri_xsi, ri_xsa, ri_xsl, ri_xinc, ri_xdup, ri_xdup2, ri_x2, ri_xd, ri_x2l, ri_xsh, ri_xl2i, ri_xi2c, ri_xcm, ri_xi2l, ri_xpop, ri_xldi, ri_xif, ri_xic, ri_xnn, ri_xnu, ri_xts, ri_xlo, ri_xgf, ri_xpf, ri_xia, ri_xja, ri_xaa, ri_xis, ri_xjs, ri_xas, ri_xal, ri_xnew, ri_xna, ri_xan, ri_xld, ri_xcp, ri_xmn, ri_xmx, ri_jmp, ri_nx] at h
    repeat' split at h
    all_goals (cases h <;> exact ⟨Nat.le_refl _, Nat.le_refl _⟩)
  | ifnonnull =>
    simp only [ri_ex, ri_xla, ri_xli, ri_xll, ri_xsi, ri_xsa, ri_xsl, ri_xinc, ri_xdup, ri_xdup2, ri_x2, ri_xd, ri_x2l, ri_xsh, ri_xl2i, ri_xi2c, ri_xcm, ri_xi2l, ri_xpop, ri_xldi, ri_xif, ri_xic, ri_xnn, ri_xnu, ri_xts, ri_xlo, ri_xgf, ri_xpf, ri_xia, ri_xja, ri_xaa, ri_xis, ri_xjs, ri_xas, ri_xal, ri_xnew, ri_xna, ri_xan, ri_xld, ri_xcp, ri_xmn, ri_xmx, ri_jmp, ri_nx] at h
    repeat' split at h
    all_goals (cases h <;> exact ⟨Nat.le_refl _, Nat.le_refl _⟩)
  | ifnull =>
    simp only [ri_ex, ri_xla, ri_xli, ri_xll, ri_xsi, ri_xsa, ri_xsl, ri_xinc, ri_xdup, ri_xdup2, ri_x2, ri_xd, ri_x2l, ri_xsh, ri_xl2i, ri_xi2c, ri_xcm, ri_xi2l, ri_xpop, ri_xldi, ri_xif, ri_xic, ri_xnn, ri_xnu, ri_xts, ri_xlo, ri_xgf, ri_xpf, ri_xia, ri_xja, ri_xaa, ri_xis, ri_xjs, ri_xas, ri_xal, ri_xnew, ri_xna, ri_xan, ri_xld, ri_xcp, ri_xmn, ri_xmx, ri_jmp, ri_nx] at h
    repeat' split at h
    all_goals (cases h <;> exact ⟨Nat.le_refl _, Nat.le_refl _⟩)
  | tableswitch =>
    simp only [ri_ex, ri_xla, ri_xli, ri_xll, ri_xsi, ri_xsa, ri_xsl, ri_xinc, ri_xdup, ri_xdup2, ri_x2, ri_xd, ri_x2l, ri_xsh, ri_xl2i, ri_xi2c, ri_xcm, ri_xi2l, ri_xpop, ri_xldi, ri_xif, ri_xic, ri_xnn, ri_xnu, ri_xts, ri_xlo, ri_xgf, ri_xpf, ri_xia, ri_xja, ri_xaa, ri_xis, ri_xjs, ri_xas, ri_xal, ri_xnew, ri_xna, ri_xan, ri_xld, ri_xcp, ri_xmn, ri_xmx, ri_jmp, ri_nx] at h
    repeat' split at h
    all_goals (cases h <;> exact ⟨Nat.le_refl _, Nat.le_refl _⟩)
  | lookupswitch =>
    simp only [ri_ex, ri_xla, ri_xli, ri_xll, ri_xsi, ri_xsa, ri_xsl, ri_xinc, ri_xdup, ri_xdup2, ri_x2, ri_xd, ri_x2l, ri_xsh, ri_xl2i, ri_xi2c, ri_xcm, ri_xi2l, ri_xpop, ri_xldi, ri_xif, ri_xic, ri_xnn, ri_xnu, ri_xts, ri_xlo, ri_xgf, ri_xpf, ri_xia, ri_xja, ri_xaa, ri_xis, ri_xjs, ri_xas, ri_xal, ri_xnew, ri_xna, ri_xan, ri_xld, ri_xcp, ri_xmn, ri_xmx, ri_jmp, ri_nx] at h
    repeat' split at h
    all_goals (cases h <;> exact ⟨Nat.le_refl _, Nat.le_refl _⟩)
  | getfield =>
    simp only [ri_ex, ri_xla, ri_xli, ri_xll, ri_xsi, ri_xsa, ri_xsl, ri_xinc, ri_xdup, ri_xdup2, ri_x2, ri_xd, ri_x2l, ri_xsh, ri_xl2i, ri_xi2c, ri_xcm, ri_xi2l, ri_xpop, ri_xldi, ri_xif, ri_xic, ri_xnn, ri_xnu, ri_xts, ri_xlo, ri_xgf, ri_xpf, ri_xia, ri_xja, ri_xaa, ri_xis, ri_xjs, ri_xas, ri_xal, ri_xnew, ri_xna, ri_xan, ri_xld, ri_xcp, ri_xmn, ri_xmx, ri_jmp, ri_nx] at h
    repeat' split at h
    all_goals (cases h <;> exact ⟨Nat.le_refl _, Nat.le_refl _⟩)
  | iaload =>
    simp only [ri_ex, ri_xla, ri_xli, ri_xll, ri_xsi, ri_xsa, ri_xsl, ri_xinc, ri_xdup, ri_xdup2, ri_x2, ri_xd, ri_x2l, ri_xsh, ri_xl2i, ri_xi2c, ri_xcm, ri_xi2l, ri_xpop, ri_xldi, ri_xif, ri_xic, ri_xnn, ri_xnu, ri_xts, ri_xlo, ri_xgf, ri_xpf, ri_xia, ri_xja, ri_xaa, ri_xis, ri_xjs, ri_xas, ri_xal, ri_xnew, ri_xna, ri_xan, ri_xld, ri_xcp, ri_xmn, ri_xmx, ri_jmp, ri_nx] at h
    repeat' split at h
    all_goals (cases h <;> exact ⟨Nat.le_refl _, Nat.le_refl _⟩)
  | laload =>
    simp only [ri_ex, ri_xla, ri_xli, ri_xll, ri_xsi, ri_xsa, ri_xsl, ri_xinc, ri_xdup, ri_xdup2, ri_x2, ri_xd, ri_x2l, ri_xsh, ri_xl2i, ri_xi2c, ri_xcm, ri_xi2l, ri_xpop, ri_xldi, ri_xif, ri_xic, ri_xnn, ri_xnu, ri_xts, ri_xlo, ri_xgf, ri_xpf, ri_xia, ri_xja, ri_xaa, ri_xis, ri_xjs, ri_xas, ri_xal, ri_xnew, ri_xna, ri_xan, ri_xld, ri_xcp, ri_xmn, ri_xmx, ri_jmp, ri_nx] at h
    repeat' split at h
    all_goals (cases h <;> exact ⟨Nat.le_refl _, Nat.le_refl _⟩)
  | aaload =>
    simp only [ri_ex, ri_xla, ri_xli, ri_xll, ri_xsi, ri_xsa, ri_xsl, ri_xinc, ri_xdup, ri_xdup2, ri_x2, ri_xd, ri_x2l, ri_xsh, ri_xl2i, ri_xi2c, ri_xcm, ri_xi2l, ri_xpop, ri_xldi, ri_xif, ri_xic, ri_xnn, ri_xnu, ri_xts, ri_xlo, ri_xgf, ri_xpf, ri_xia, ri_xja, ri_xaa, ri_xis, ri_xjs, ri_xas, ri_xal, ri_xnew, ri_xna, ri_xan, ri_xld, ri_xcp, ri_xmn, ri_xmx, ri_jmp, ri_nx] at h
    repeat' split at h
    all_goals (cases h <;> exact ⟨Nat.le_refl _, Nat.le_refl _⟩)
  | arraylength =>
    simp only [ri_ex, ri_xla, ri_xli, ri_xll, ri_xsi, ri_xsa, ri_xsl, ri_xinc, ri_xdup, ri_xdup2, ri_x2, ri_xd, ri_x2l, ri_xsh, ri_xl2i, ri_xi2c, ri_xcm, ri_xi2l, ri_xpop, ri_xldi, ri_xif, ri_xic, ri_xnn, ri_xnu, ri_xts, ri_xlo, ri_xgf, ri_xpf, ri_xia, ri_xja, ri_xaa, ri_xis, ri_xjs, ri_xas, ri_xal, ri_xnew, ri_xna, ri_xan, ri_xld, ri_xcp, ri_xmn, ri_xmx, ri_jmp, ri_nx] at h
    repeat' split at h
    all_goals (cases h <;> exact ⟨Nat.le_refl _, Nat.le_refl _⟩)
  | ldc2_w =>
    simp only [ri_ex, ri_xla, ri_xli, ri_xll, ri_xsi, ri_xsa, ri_xsl, ri_xinc, ri_xdup, ri_xdup2, ri_x2, ri_xd, ri_x2l, ri_xsh, ri_xl2i, ri_xi2c, ri_xcm, ri_xi2l, ri_xpop, ri_xldi, ri_xif, ri_xic, ri_xnn, ri_xnu, ri_xts, ri_xlo, ri_xgf, ri_xpf, ri_xia, ri_xja, ri_xaa, ri_xis, ri_xjs, ri_xas, ri_xal, ri_xnew, ri_xna, ri_xan, ri_xld, ri_xcp, ri_xmn, ri_xmx, ri_jmp, ri_nx] at h
    repeat' split at h
    all_goals (cases h <;> exact ⟨Nat.le_refl _, Nat.le_refl _⟩)
  | putfield ix =>
    simp only [ri_ex, ri_xpf, ri_nx] at h
    split at h
    · split at h
      · split at h
        · rename_i w' hpf
          cases h
          obtain ⟨fs, g1, rfl⟩ := ri_pf_eq hpf
          exact ri_mono_set g1 List.length_set
        · cases h
      · cases h
    · cases h
  | iastore =>
    simp only [ri_ex, ri_xis, ri_nx] at h
    split at h
    · split at h
      · rename_i hg
        split at h
        · cases h
          exact ri_mono_set (ri_gI_eq hg) rfl
        · cases h
      · cases h
    · cases h
  | lastore =>
    simp only [ri_ex, ri_xjs, ri_nx] at h
    split at h
    · split at h
      · rename_i hg
        split at h
        · cases h
          exact ri_mono_set (ri_gJ_eq hg) rfl
        · cases h
      · cases h
    · cases h
  | aastore =>
    simp only [ri_ex, ri_xas, ri_nx] at h
    split at h
    · split at h
      · rename_i hg _
        split at h
        · cases h
          exact ri_mono_set (ri_gS_eq hg) rfl
        · cases h
      · cases h
    · cases h
  | new ix =>
    simp only [ri_ex, ri_xnew, ri_nx] at h
    split at h
    · cases h
      exact ri_mono_push
    · cases h
  | newarray t =>
    simp only [ri_ex, ri_xna, ri_nx] at h
    split at h
    · split at h
      · cases h
        exact ri_mono_push
      · cases h
    · split at h
      · cases h
        exact ri_mono_push
      · cases h
    · cases h
  | anewarray ix =>
    simp only [ri_ex, ri_xan, ri_nx] at h
    split at h
    · split at h
      · cases h
        exact ri_mono_push
      · cases h
    · cases h
  | invokevirtual ix =>
    simp only [ri_ex, ri_xiv, ri_call] at h
    repeat' split at h
    all_goals cases h
  | invokestatic ix =>
    simp only [ri_ex, ri_xis_, ri_xmn, ri_xmx, ri_xcp, ri_call, ri_nx] at h
    repeat' split at h
    all_goals first | (cases h; done) | (cases h; exact ⟨Nat.le_refl _, Nat.le_refl _⟩) | (cases h; rename_i hg _; exact ri_mono_set (ri_gI_eq (by assumption)) rfl) | (cases h; exact ri_mono_set (ri_gJ_eq (by assumption)) rfl)
  | invokespecial ix =>
    simp only [ri_ex, ri_xip, ri_call, ri_nx] at h
    repeat' split at h
    all_goals first | (cases h; done) | (cases h; exact ⟨Nat.le_refl _, Nat.le_refl _⟩)
  | ireturn =>
    simp only [ri_ex, ri_xir, ri_ret] at h
    repeat' split at h
    all_goals cases h
  | areturn =>
    simp only [ri_ex, ri_xar, ri_ret] at h
    repeat' split at h
    all_goals cases h
  | lreturn =>
    simp only [ri_ex, ri_xlr, ri_ret] at h
    repeat' split at h
    all_goals cases h
  | return_ =>
    simp only [ri_ex, ri_xvr, ri_ret] at h
    repeat' split at h
    all_goals cases h
  | _ => cases h
/-- where a run ends, and where it calls -/
theorem ri_ex_end {i : Instr} {q : ri_X ⊕ (Nat × List Value × ri_C)} (h : ri_ex y sc i pc ls st w = some (.inr q)) : i = .ireturn ∨ i = .areturn ∨ i = .lreturn ∨ i = .return_ ∨ (∃ ix, i = .invokevirtual ix) ∨ (∃ ix, i = .invokestatic ix) ∨ (∃ ix, i = .invokespecial ix) := by
  cases i with
  | ireturn => exact Or.inl rfl
  | areturn => exact Or.inr (Or.inl rfl)
  | lreturn => exact Or.inr (Or.inr (Or.inl rfl))
  | return_ => exact Or.inr (Or.inr (Or.inr (Or.inl rfl)))
  | invokevirtual ix => exact Or.inr (Or.inr (Or.inr (Or.inr (Or.inl ⟨ix, rfl⟩))))
  | invokestatic ix => exact Or.inr (Or.inr (Or.inr (Or.inr (Or.inr (Or.inl ⟨ix, rfl⟩)))))
  | invokespecial ix => exact Or.inr (Or.inr (Or.inr (Or.inr (Or.inr (Or.inr ⟨ix, rfl⟩)))))
  | aload_n =>
    exfalso
    simp only [ri_ex, ri_xla, ri_xli, ri_xll, ri_xsi, ri_xsa, ri_xsl, ri_xinc, ri_xdup, ri_xdup2, ri_x2, ri_xd, ri_x2l, ri_xsh, ri_xl2i, ri_xi2c, ri_xcm, ri_xi2l, ri_xpop, ri_xldi, ri_xif, ri_xic, ri_xnn, ri_xnu, ri_xts, ri_xlo, ri_xgf, ri_xpf, ri_xia, ri_xja, ri_xaa, ri_xis, ri_xjs, ri_xas, ri_xal, ri_xnew, ri_xna, ri_xan, ri_xld, ri_xcp, ri_xmn, ri_xmx, ri_jmp, ri_nx] at h
    repeat' split at h
    all_goals cases h
  | iload_n =>
    exfalso
    simp only [ri_ex, ri_xla, ri_xli, ri_xll, ri_xsi, ri_xsa, ri_xsl, ri_xinc, ri_xdup, ri_xdup2, ri_x2, ri_xd, ri_x2l, ri_xsh, ri_xl2i, ri_xi2c, ri_xcm, ri_xi2l, ri_xpop, ri_xldi, ri_xif, ri_xic, ri_xnn, ri_xnu, ri_xts, ri_xlo, ri_xgf, ri_xpf, ri_xia, ri_xja, ri_xaa, ri_xis, ri_xjs, ri_xas, ri_xal, ri_xnew, ri_xna, ri_xan, ri_xld, ri_xcp, ri_xmn, ri_xmx, ri_jmp, ri_nx] at h
    repeat' split at h
    all_goals cases h
  | iload =>
    exfalso
    simp only [ri_ex, ri_xla, ri_xli, ri_xll, ri_xsi, ri_xsa, ri_xsl, ri_xinc, ri_xdup, ri_xdup2, ri_x2, ri_xd, ri_x2l, ri_xsh, ri_xl2i, ri_xi2c, ri_xcm, ri_xi2l, ri_xpop, ri_xldi, ri_xif, ri_xic, ri_xnn, ri_xnu, ri_xts, ri_xlo, ri_xgf, ri_xpf, ri_xia, ri_xja, ri_xaa, ri_xis, ri_xjs, ri_xas, ri_xal, ri_xnew, ri_xna, ri_xan, ri_xld, ri_xcp, ri_xmn, ri_xmx, ri_jmp, ri_nx] at h
    repeat' split at h
    all_goals cases h
  | lload_n =>
    exfalso
    simp only [ri_ex, ri_xla, ri_xli, ri_xll, ri_xsi, ri_xsa, ri_xsl, ri_xinc, ri_xdup, ri_xdup2, ri_x2, ri_xd, ri_x2l, ri_xsh, ri_xl2i, ri_xi2c, ri_xcm, ri_xi2l, ri_xpop, ri_xldi, ri_xif, ri_xic, ri_xnn, ri_xnu, ri_xts, ri_xlo, ri_xgf, ri_xpf, ri_xia, ri_xja, ri_xaa, ri_xis, ri_xjs, ri_xas, ri_xal, ri_xnew, ri_xna, ri_xan, ri_xld, ri_xcp, ri_xmn, ri_xmx, ri_jmp, ri_nx] at h
    repeat' split at h
    all_goals cases h
  | lload =>
    exfalso
    simp only [ri_ex, ri_xla, ri_xli, ri_xll, ri_xsi, ri_xsa, ri_xsl, ri_xinc, ri_xdup, ri_xdup2, ri_x2, ri_xd, ri_x2l, ri_xsh, ri_xl2i, ri_xi2c, ri_xcm, ri_xi2l, ri_xpop, ri_xldi, ri_xif, ri_xic, ri_xnn, ri_xnu, ri_xts, ri_xlo, ri_xgf, ri_xpf, ri_xia, ri_xja, ri_xaa, ri_xis, ri_xjs, ri_xas, ri_xal, ri_xnew, ri_xna, ri_xan, ri_xld, ri_xcp, ri_xmn, ri_xmx, ri_jmp, ri_nx] at h
    repeat' split at h
    all_goals cases h
  | iconst =>
    exfalso
    simp only [ri_ex, ri_xla, ri_xli, ri_xll, ri_xsi, ri_xsa, ri_xsl, ri_xinc, ri_xdup, ri_xdup2, ri_x2, ri_xd, ri_x2l, ri_xsh, ri_xl2i, ri_xi2c, ri_xcm, ri_xi2l, ri_xpop, ri_xldi, ri_xif, ri_xic, ri_xnn, ri_xnu, ri_xts, ri_xlo, ri_xgf, ri_xpf, ri_xia, ri_xja, ri_xaa, ri_xis, ri_xjs, ri_xas, ri_xal, ri_xnew, ri_xna, ri_xan, ri_xld, ri_xcp, ri_xmn, ri_xmx, ri_jmp, ri_nx] at h
    repeat' split at h
    all_goals cases h
  | bipush =>
    exfalso
    simp only [ri_ex, ri_xla, ri_xli, ri_xll, ri_xsi, ri_xsa, ri_xsl, ri_xinc, ri_xdup, ri_xdup2, ri_x2, ri_xd, ri_x2l, ri_xsh, ri_xl2i, ri_xi2c, ri_xcm, ri_xi2l, ri_xpop, ri_xldi, ri_xif, ri_xic, ri_xnn, ri_xnu, ri_xts, ri_xlo, ri_xgf, ri_xpf, ri_xia, ri_xja, ri_xaa, ri_xis, ri_xjs, ri_xas, ri_xal, ri_xnew, ri_xna, ri_xan, ri_xld, ri_xcp, ri_xmn, ri_xmx, ri_jmp, ri_nx] at h
    repeat' split at h
    all_goals cases h
  | sipush =>
    exfalso
    simp only [ri_ex, ri_xla, ri_xli, ri_xll, ri_xsi, ri_xsa, ri_xsl, ri_xinc, ri_xdup, ri_xdup2, ri_x2, ri_xd, ri_x2l, ri_xsh, ri_xl2i, ri_xi2c, ri_xcm, ri_xi2l, ri_xpop, ri_xldi, ri_xif, ri_xic, ri_xnn, ri_xnu, ri_xts, ri_xlo, ri_xgf, ri_xpf, ri_xia, ri_xja, ri_xaa, ri_xis, ri_xjs, ri_xas, ri_xal, ri_xnew, ri_xna, ri_xan, ri_xld, ri_xcp, ri_xmn, ri_xmx, ri_jmp, ri_nx] at h
    repeat' split at h
    all_goals cases h
  | lconst =>
    exfalso
    simp only [ri_ex, ri_xla, ri_xli, ri_xll, ri_xsi, ri_xsa, ri_xsl, ri_xinc, ri_xdup, ri_xdup2, ri_x2, ri_xd, ri_x2l, ri_xsh, ri_xl2i, ri_xi2c, ri_xcm, ri_xi2l, ri_xpop, ri_xldi, ri_xif, ri_xic, ri_xnn, ri_xnu, ri_xts, ri_xlo, ri_xgf, ri_xpf, ri_xia, ri_xja, ri_xaa, ri_xis, ri_xjs, ri_xas, ri_xal, ri_xnew, ri_xna, ri_xan, ri_xld, ri_xcp, ri_xmn, ri_xmx, ri_jmp, ri_nx] at h
    repeat' split at h
    all_goals cases h
  | istore_n =>
    exfalso
    simp only [ri_ex, ri_xla, ri_xli, ri_xll, ri_xsi, ri_xsa, ri_xsl, ri_xinc, ri_xdup, ri_xdup2, ri_x2, ri_xd, ri_x2l, ri_xsh, ri_xl2i, ri_xi2c, ri_xcm, ri_xi2l, ri_xpop, ri_xldi, ri_xif, ri_xic, ri_xnn, ri_xnu, ri_xts, ri_xlo, ri_xgf, ri_xpf, ri_xia, ri_xja, ri_xaa, ri_xis, ri_xjs, ri_xas, ri_xal, ri_xnew, ri_xna, ri_xan, ri_xld, ri_xcp, ri_xmn, ri_xmx, ri_jmp, ri_nx] at h
    repeat' split at h
    all_goals cases h
  | istore =>
    exfalso
    simp only [ri_ex, ri_xla, ri_xli, ri_xll, ri_xsi, ri_xsa, ri_xsl, ri_xinc, ri_xdup, ri_xdup2, ri_x2, ri_xd, ri_x2l, ri_xsh, ri_xl2i, ri_xi2c, ri_xcm, ri_xi2l, ri_xpop, ri_xldi, ri_xif, ri_xic, ri_xnn, ri_xnu, ri_xts, ri_xlo, ri_xgf, ri_xpf, ri_xia, ri_xja, ri_xaa, ri_xis, ri_xjs, ri_xas, ri_xal, ri_xnew, ri_xna, ri_xan, ri_xld, ri_xcp, ri_xmn, ri_xmx, ri_jmp, ri_nx] at h
    repeat' split at h
    all_goals cases h
  | astore_n =>
    exfalso
    simp only [ri_ex, ri_xla, ri_xli, ri_xll, ri_xsi, ri_xsa, ri_xsl, ri_xinc, ri_xdup, ri_xdup2, ri_x2, ri_xd, ri_x2l, ri_xsh, ri_xl2i, ri_xi2c, ri_xcm, ri_xi2l, ri_xpop, ri_xldi, ri_xif, ri_xic, ri_xnn, ri_xnu, ri_xts, ri_xlo, ri_xgf, ri_xpf, ri_xia, ri_xja, ri_xaa, ri_xis, ri_xjs, ri_xas, ri_xal, ri_xnew, ri_xna, ri_xan, ri_xld, ri_xcp, ri_xmn, ri_xmx, ri_jmp, ri_nx] at h
    repeat' split at h
    all_goals cases h
  | lstore_n =>
    exfalso
    simp only [ri_ex, ri_xla, ri_xli, ri_xll, ri_xsi, ri_xsa, ri_xsl, ri_xinc, ri_xdup, ri_xdup2, ri_x2, ri_xd, ri_x2l, ri_xsh, ri_xl2i, ri_xi2c, ri_xcm, ri_xi2l, ri_xpop, ri_xldi, ri_xif, ri_xic, ri_xnn, ri_xnu, ri_xts, ri_xlo, ri_xgf, ri_xpf, ri_xia, ri_xja, ri_xaa, ri_xis, ri_xjs, ri_xas, ri_xal, ri_xnew, ri_xna, ri_xan, ri_xld, ri_xcp, ri_xmn, ri_xmx, ri_jmp, ri_nx] at h
    repeat' split at h
    all_goals cases h
  | lstore =>
    exfalso
    simp only [ri_ex, ri_xla, ri_xli, ri_xll, ri_xsi, ri_xsa, ri_xsl, ri_xinc, ri_xdup, ri_xdup2, ri_x2, ri_xd, ri_x2l, ri_xsh, ri_xl2i, ri_xi2c, ri_xcm, ri_xi2l, ri_xpop, ri_xldi, ri_xif, ri_xic, ri_xnn, ri_xnu, ri_xts, ri_xlo, ri_xgf, ri_xpf, ri_xia, ri_xja, ri_xaa, ri_xis, ri_xjs, ri_xas, ri_xal, ri_xnew, ri_xna, ri_xan, ri_xld, ri_xcp, ri_xmn, ri_xmx, ri_jmp, ri_nx] at h
    repeat' split at h
    all_goals cases h
  | iinc =>
    exfalso
    simp only [ri_ex, ri_xla, ri_xli, ri_xll, ri_xsi, ri_xsa, ri_xsl, ri_xinc, ri_xdup, ri_xdup2, ri_x2, ri_xd, ri_x2l, ri_xsh, ri_xl2i, ri_xi2c, ri_xcm, ri_xi2l, ri_xpop, ri_xldi, ri_xif, ri_xic, ri_xnn, ri_xnu, ri_xts, ri_xlo, ri_xgf, ri_xpf, ri_xia, ri_xja, ri_xaa, ri_xis, ri_xjs, ri_xas, ri_xal, ri_xnew, ri_xna, ri_xan, ri_xld, ri_xcp, ri_xmn, ri_xmx, ri_jmp, ri_nx] at h
    repeat' split at h
    all_goals cases h
  | dup =>
    exfalso
    simp only [ri_ex, ri_xla, ri_xli, ri_xll, ri_xsi, ri_xsa, ri_xsl, ri_xinc, ri_xdup, ri_xdup2, ri_x2, ri_xd, ri_x2l, ri_xsh, ri_xl2i, ri_xi2c, ri_xcm, ri_xi2l, ri_xpop, ri_xldi, ri_xif, ri_xic, ri_xnn, ri_xnu, ri_xts, ri_xlo, ri_xgf, ri_xpf, ri_xia, ri_xja, ri_xaa, ri_xis, ri_xjs, ri_xas, ri_xal, ri_xnew, ri_xna, ri_xan, ri_xld, ri_xcp, ri_xmn, ri_xmx, ri_jmp, ri_nx] at h
    repeat' split at h
    all_goals cases h
  | dup2 =>
    exfalso
    simp only [ri_ex, ri_xla, ri_xli, ri_xll, ri_xsi, ri_xsa, ri_xsl, ri_xinc, ri_xdup, ri_xdup2, ri_x2, ri_xd, ri_x2l, ri_xsh, ri_xl2i, ri_xi2c, ri_xcm, ri_xi2l, ri_xpop, ri_xldi, ri_xif, ri_xic, ri_xnn, ri_xnu, ri_xts, ri_xlo, ri_xgf, ri_xpf, ri_xia, ri_xja, ri_xaa, ri_xis, ri_xjs, ri_xas, ri_xal, ri_xnew, ri_xna, ri_xan, ri_xld, ri_xcp, ri_xmn, ri_xmx, ri_jmp, ri_nx] at h
    repeat' split at h
    all_goals cases h
  | iadd =>
    exfalso
    simp only [ri_ex, ri_xla, ri_xli, ri_xll, ri_xsi, ri_xsa, ri_xsl, ri_xinc, ri_xdup, ri_xdup2, ri_x2, ri_xd, ri_x2l, ri_xsh, ri_xl2i, ri_xi2c, ri_xcm, ri_xi2l, ri_xpop, ri_xldi, ri_xif, ri_xic, ri_xnn, ri_xnu, ri_xts, ri_xlo, ri_xgf, ri_xpf, ri_xia, ri_xja, ri_xaa, ri_xis, ri_xjs, ri_xas, ri_xal, ri_xnew, ri_xna, ri_xan, ri_xld, ri_xcp, ri_xmn, ri_xmx, ri_jmp, ri_nx] at h
    repeat' split at h
    all_goals cases h
  | isub =>
    exfalso
    simp only [ri_ex, ri_xla, ri_xli, ri_xll, ri_xsi, ri_xsa, ri_xsl, ri_xinc, ri_xdup, ri_xdup2, ri_x2, ri_xd, ri_x2l, ri_xsh, ri_xl2i, ri_xi2c, ri_xcm, ri_xi2l, ri_xpop, ri_xldi, ri_xif, ri_xic, ri_xnn, ri_xnu, ri_xts, ri_xlo, ri_xgf, ri_xpf, ri_xia, ri_xja, ri_xaa, ri_xis, ri_xjs, ri_xas, ri_xal, ri_xnew, ri_xna, ri_xan, ri_xld, ri_xcp, ri_xmn, ri_xmx, ri_jmp, ri_nx] at h
    repeat' split at h
    all_goals cases h
  | imul =>
    exfalso
    simp only [ri_ex, ri_xla, ri_xli, ri_xll, ri_xsi, ri_xsa, ri_xsl, ri_xinc, ri_xdup, ri_xdup2, ri_x2, ri_xd, ri_x2l, ri_xsh, ri_xl2i, ri_xi2c, ri_xcm, ri_xi2l, ri_xpop, ri_xldi, ri_xif, ri_xic, ri_xnn, ri_xnu, ri_xts, ri_xlo, ri_xgf, ri_xpf, ri_xia, ri_xja, ri_xaa, ri_xis, ri_xjs, ri_xas, ri_xal, ri_xnew, ri_xna, ri_xan, ri_xld, ri_xcp, ri_xmn, ri_xmx, ri_jmp, ri_nx] at h
    repeat' split at h
    all_goals cases h
  | iand =>
    exfalso
    simp only [ri_ex, ri_xla, ri_xli, ri_xll, ri_xsi, ri_xsa, ri_xsl, ri_xinc, ri_xdup, ri_xdup2, ri_x2, ri_xd, ri_x2l, ri_xsh, ri_xl2i, ri_xi2c, ri_xcm, ri_xi2l, ri_xpop, ri_xldi, ri_xif, ri_xic, ri_xnn, ri_xnu, ri_xts, ri_xlo, ri_xgf, ri_xpf, ri_xia, ri_xja, ri_xaa, ri_xis, ri_xjs, ri_xas, ri_xal, ri_xnew, ri_xna, ri_xan, ri_xld, ri_xcp, ri_xmn, ri_xmx, ri_jmp, ri_nx] at h
    repeat' split at h
    all_goals cases h
  | ixor =>
    exfalso
    simp only [ri_ex, ri_xla, ri_xli, ri_xll, ri_xsi, ri_xsa, ri_xsl, ri_xinc, ri_xdup, ri_xdup2, ri_x2, ri_xd, ri_x2l, ri_xsh, ri_xl2i, ri_xi2c, ri_xcm, ri_xi2l, ri_xpop, ri_xldi, ri_xif, ri_xic, ri_xnn, ri_xnu, ri_xts, ri_xlo, ri_xgf, ri_xpf, ri_xia, ri_xja, ri_xaa, ri_xis, ri_xjs, ri_xas, ri_xal, ri_xnew, ri_xna, ri_xan, ri_xld, ri_xcp, ri_xmn, ri_xmx, ri_jmp, ri_nx] at h
    repeat' split at h
    all_goals cases h
  | ior =>
    exfalso
    simp only [ri_ex, ri_xla, ri_xli, ri_xll, ri_xsi, ri_xsa, ri_xsl, ri_xinc, ri_xdup, ri_xdup2, ri_x2, ri_xd, ri_x2l, ri_xsh, ri_xl2i, ri_xi2c, ri_xcm, ri_xi2l, ri_xpop, ri_xldi, ri_xif, ri_xic, ri_xnn, ri_xnu, ri_xts, ri_xlo, ri_xgf, ri_xpf, ri_xia, ri_xja, ri_xaa, ri_xis, ri_xjs, ri_xas, ri_xal, ri_xnew, ri_xna, ri_xan, ri_xld, ri_xcp, ri_xmn, ri_xmx, ri_jmp, ri_nx] at h
    repeat' split at h
    all_goals cases h
  | ishr =>
    exfalso
    simp only [ri_ex, ri_xla, ri_xli, ri_xll, ri_xsi, ri_xsa, ri_xsl, ri_xinc, ri_xdup, ri_xdup2, ri_x2, ri_xd, ri_x2l, ri_xsh, ri_xl2i, ri_xi2c, ri_xcm, ri_xi2l, ri_xpop, ri_xldi, ri_xif, ri_xic, ri_xnn, ri_xnu, ri_xts, ri_xlo, ri_xgf, ri_xpf, ri_xia, ri_xja, ri_xaa, ri_xis, ri_xjs, ri_xas, ri_xal, ri_xnew, ri_xna, ri_xan, ri_xld, ri_xcp, ri_xmn, ri_xmx, ri_jmp, ri_nx] at h
    repeat' split at h
    all_goals cases h
  | lmul =>
    exfalso
    simp only [ri_ex, ri_xla, ri_xli, ri_xll, ri_xsi, ri_xsa, ri_xsl, ri_xinc, ri_xdup, ri_xdup2, ri_x2, ri_xd, ri_x2l, ri_xsh, ri_xl2i, ri_xi2c, ri_xcm, ri_xi2l, ri_xpop, ri_xldi, ri_xif, ri_xic, ri_xnn, ri_xnu, ri_xts, ri_xlo, ri_xgf, ri_xpf, ri_xia, ri_xja, ri_xaa, ri_xis, ri_xjs, ri_xas, ri_xal, ri_xnew, ri_xna, ri_xan, ri_xld, ri_xcp, ri_xmn, ri_xmx, ri_jmp, ri_nx] at h
    repeat' split at h
    all_goals cases h
  | lcmp =>
    exfalso
    simp only [ri_ex, ri_xla, ri_xli, ri_xll, ri_xsi, ri_xsa, ri_xsl, ri_xinc, ri_xdup, ri_xdup2, ri_x2, ri_xd, ri_x2l, ri_xsh, ri_xl2i, ri_xi2c, ri_xcm, ri_xi2l, ri_xpop, ri_xldi, ri_xif, ri_xic, ri_xnn, ri_xnu, ri_xts, ri_xlo, ri_xgf, ri_xpf, ri_xia, ri_xja, ri_xaa, ri_xis, ri_xjs, ri_xas, ri_xal, ri_xnew, ri_xna, ri_xan, ri_xld, ri_xcp, ri_xmn, ri_xmx, ri_jmp, ri_nx] at h
    repeat' split at h
    all_goals cases h
  | i2l =>
    exfalso
    simp only [ri_ex, ri_xla, ri_xli, ri_xll, ri_xsi, ri_xsa, ri_xsl, ri_xinc, ri_xdup, ri_xdup2, ri_x2, ri_xd, ri_x2l, ri_xsh, ri_xl2i, ri_xi2c, ri_xcm, ri_xi2l, ri_xpop, ri_xldi, ri_xif, ri_xic, ri_xnn, ri_xnu, ri_xts, ri_xlo, ri_xgf, ri_xpf, ri_xia, ri_xja, ri_xaa, ri_xis, ri_xjs, ri_xas, ri_xal, ri_xnew, ri_xna, ri_xan, ri_xld, ri_xcp, ri_xmn, ri_xmx, ri_jmp, ri_nx] at h
    repeat' split at h
    all_goals cases h
  | pop =>
    exfalso
    simp only [ri_ex, ri_xla, ri_xli, ri_xll, ri_xsi, ri_xsa, ri_xsl, ri_xinc, ri_xdup, ri_xdup2, ri_x2, ri_xd, ri_x2l, ri_xsh, ri_xl2i, ri_xi2c, ri_xcm, ri_xi2l, ri_xpop, ri_xldi, ri_xif, ri_xic, ri_xnn, ri_xnu, ri_xts, ri_xlo, ri_xgf, ri_xpf, ri_xia, ri_xja, ri_xaa, ri_xis, ri_xjs, ri_xas, ri_xal, ri_xnew, ri_xna, ri_xan, ri_xld, ri_xcp, ri_xmn, ri_xmx, ri_jmp, ri_nx] at h
    repeat' split at h
    all_goals cases h
  | ldc =>
    exfalso
    simp only [ri_ex, ri_xla, ri_xli, ri_xll, ri_xsi, ri_xsa, ri_xsl, ri_xinc, ri_xdup, ri_xdup2, ri_x2, ri_xd, ri_x2l, ri_xsh, ri_xl2i, ri_xi2c, ri_xcm, ri_xi2l, ri_xpop, ri_xldi, ri_xif, ri_xic, ri_xnn, ri_xnu, ri_xts, ri_xlo, ri_xgf, ri_xpf, ri_xia, ri_xja, ri_xaa, ri_xis, ri_xjs, ri_xas, ri_xal, ri_xnew, ri_xna, ri_xan, ri_xld, ri_xcp, ri_xmn, ri_xmx, ri_jmp, ri_nx] at h
    repeat' split at h
    all_goals cases h
  | idiv =>
    exfalso
    simp only [ri_ex, ri_xla, ri_xli, ri_xll, ri_xsi, ri_xsa, ri_xsl, ri_xinc, ri_xdup, ri_xdup2, ri_x2, ri_xd, ri_x2l, ri_xsh, ri_xl2i, ri_xi2c, ri_xcm, ri_xi2l, ri_xpop, ri_xldi, ri_xif, ri_xic, ri_xnn, ri_xnu, ri_xts, ri_xlo, ri_xgf, ri_xpf, ri_xia, ri_xja, ri_xaa, ri_xis, ri_xjs, ri_xas, ri_xal, ri_xnew, ri_xna, ri_xan, ri_xld, ri_xcp, ri_xmn, ri_xmx, ri_jmp, ri_nx] at h
    repeat' split at h
    all_goals cases h
  | irem =>
    exfalso
    simp only [ri_ex, ri_xla, ri_xli, ri_xll, ri_xsi, ri_xsa, ri_xsl, ri_xinc, ri_xdup, ri_xdup2, ri_x2, ri_xd, ri_x2l, ri_xsh, ri_xl2i, ri_xi2c, ri_xcm, ri_xi2l, ri_xpop, ri_xldi, ri_xif, ri_xic, ri_xnn, ri_xnu, ri_xts, ri_xlo, ri_xgf, ri_xpf, ri_xia, ri_xja, ri_xaa, ri_xis, ri_xjs, ri_xas, ri_xal, ri_xnew, ri_xna, ri_xan, ri_xld, ri_xcp, ri_xmn, ri_xmx, ri_jmp, ri_nx] at h
    repeat' split at h
    all_goals cases h
  | ladd =>
    exfalso
    simp only [ri_ex, ri_xla, ri_xli, ri_xll, ri_xsi, ri_xsa, ri_xsl, ri_xinc, ri_xdup, ri_xdup2, ri_x2, ri_xd, ri_x2l, ri_xsh, ri_xl2i, ri_xi2c, ri_xcm, ri_xi2l, ri_xpop, ri_xldi, ri_xif, ri_xic, ri_xnn, ri_xnu, ri_xts, ri_xlo, ri_xgf, ri_xpf, ri_xia, ri_xja, ri_xaa, ri_xis, ri_xjs, ri_xas, ri_xal, ri_xnew, ri_xna, ri_xan, ri_xld, ri_xcp, ri_xmn, ri_xmx, ri_jmp, ri_nx] at h
    repeat' split at h
    all_goals cases h
  | lsub =>
    exfalso
    simp only [ri_ex, ri_xla, ri_xli, ri_xll, ri_xsi, ri_xsa, ri_xsl, ri_xinc, ri_xdup, ri_xdup2, ri_x2, ri_xd, ri_x2l, ri_xsh, ri_xl2i, ri_xi2c, ri_xcm, ri_xi2l, ri_xpop, ri_xldi, ri_xif, ri_xic, ri_xnn, ri_xnu, ri_xts, ri_xlo, ri_xgf, ri_xpf, ri_xia, ri_xja, ri_xaa, ri_xis, ri_xjs, ri_xas, ri_xal, ri_xnew, ri_xna, ri_xan, ri_xld, ri_xcp, ri_xmn, ri_xmx, ri_jmp, ri_nx] at h
    repeat' split at h
    all_goals cases h
  | land =>
    exfalso
    simp only [ri_ex, ri_xla, ri_xli, ri_xll, ri_xsi, ri_xsa, ri_xsl, ri_xinc, ri_xdup, ri_xdup2, ri_x2, ri_xd, ri_x2l, ri_xsh, ri_xl2i, ri_xi2c, ri_xcm, ri_xi2l, ri_xpop, ri_xldi, ri_xif, ri_xic, ri_xnn, ri_xnu, ri_xts, ri_xlo, ri_xgf, ri_xpf, ri_xia, ri_xja, ri_xaa, ri_xis, ri_xjs, ri_xas, ri_xal, ri_xnew, ri_xna, ri_xan, ri_xld, ri_xcp, ri_xmn, ri_xmx, ri_jmp, ri_nx] at h
    repeat' split at h
    all_goals cases h
  | lor =>
    exfalso
    simp only [ri_ex, ri_xla, ri_xli, ri_xll, ri_xsi, ri_xsa, ri_xsl, ri_xinc, ri_xdup, ri_xdup2, ri_x2, ri_xd, ri_x2l, ri_xsh, ri_xl2i, ri_xi2c, ri_xcm, ri_xi2l, ri_xpop, ri_xldi, ri_xif, ri_xic, ri_xnn, ri_xnu, ri_xts, ri_xlo, ri_xgf, ri_xpf, ri_xia, ri_xja, ri_xaa, ri_xis, ri_xjs, ri_xas, ri_xal, ri_xnew, ri_xna, ri_xan, ri_xld, ri_xcp, ri_xmn, ri_xmx, ri_jmp, ri_nx] at h
    repeat' split at h
    all_goals cases h
  | lxor =>
    exfalso
    simp only [ri_ex, ri_xla, ri_xli, ri_xll, ri_xsi, ri_xsa, ri_xsl, ri_xinc, ri_xdup, ri_xdup2, ri_x2, ri_xd, ri_x2l, ri_xsh, ri_xl2i, ri_xi2c, ri_xcm, ri_xi2l, ri_xpop, ri_xldi, ri_xif, ri_xic, ri_xnn, ri_xnu, ri_xts, ri_xlo, ri_xgf, ri_xpf, ri_xia, ri_xja, ri_xaa, ri_xis, ri_xjs, ri_xas, ri_xal, ri_xnew, ri_xna, ri_xan, ri_xld, ri_xcp, ri_xmn, ri_xmx, ri_jmp, ri_nx] at h
    repeat' split at h
    all_goals cases h
  | lshl =>
    exfalso
    simp only [ri_ex, ri_xla, ri_xli, ri_xll, ri_xsi, ri_xsa, ri_xsl, ri_xinc, ri_xdup, ri_xdup2, ri_x2, ri_xd, ri_x2l, ri_xsh, ri_xl2i, ri_xi2c, ri_xcm, ri_xi2l, ri_xpop, ri_xldi, ri_xif, ri_xic, ri_xnn, ri_xnu, ri_xts, ri_xlo, ri_xgf, ri_xpf, ri_xia, ri_xja, ri_xaa, ri_xis, ri_xjs, ri_xas, ri_xal, ri_xnew, ri_xna, ri_xan, ri_xld, ri_xcp, ri_xmn, ri_xmx, ri_jmp, ri_nx] at h
    repeat' split at h
    all_goals cases h
  | lushr =>
    exfalso
    simp only [ri_ex, ri_xla, ri_xli, ri_xll, ri_xsi, ri_xsa, ri_xsl, ri_xinc, ri_xdup, ri_xdup2, ri_x2, ri_xd, ri_x2l, ri_xsh, ri_xl2i, ri_xi2c, ri_xcm, ri_xi2l, ri_xpop, ri_xldi, ri_xif, ri_xic, ri_xnn, ri_xnu, ri_xts, ri_xlo, ri_xgf, ri_xpf, ri_xia, ri_xja, ri_xaa, ri_xis, ri_xjs, ri_xas, ri_xal, ri_xnew, ri_xna, ri_xan, ri_xld, ri_xcp, ri_xmn, ri_xmx, ri_jmp, ri_nx] at h
    repeat' split at h
    all_goals cases h
  | l2i =>
    exfalso
    simp only [ri_ex, ri_xla, ri_xli, ri_xll, ri_xsi, ri_xsa, ri_xsl, ri_xinc, ri_xdup, ri_xdup2, ri_x2, ri_xd, ri_x2l, ri_xsh, ri_xl2i, ri_xi2c, ri_xcm, ri_xi2l, ri_xpop, ri_xldi, ri_xif, ri_xic, ri_xnn, ri_xnu, ri_xts, ri_xlo, ri_xgf, ri_xpf, ri_xia, ri_xja, ri_xaa, ri_xis, ri_xjs, ri_xas, ri_xal, ri_xnew, ri_xna, ri_xan, ri_xld, ri_xcp, ri_xmn, ri_xmx, ri_jmp, ri_nx] at h
    repeat' split at h
    all_goals cases h
  | i2c =>
    exfalso
    simp only [ri_ex, ri_xla, ri_xli, ri_xll, ri_xsi, ri_xsa, ri_xsl, ri_xinc, ri_xdup, ri_xdup2, ri_x2, ri_xd, ri_x2l, ri_xsh, ri_xl2i, ri_xi2c, ri_xcm, ri_xi2l, ri_xpop, ri_xldi, ri_xif, ri_xic, ri_xnn, ri_xnu, ri_xts, ri_xlo, ri_xgf, ri_xpf, ri_xia, ri_xja, ri_xaa, ri_xis, ri_xjs, ri_xas, ri_xal, ri_xnew, ri_xna, ri_xan, ri_xld, ri_xcp, ri_xmn, ri_xmx, ri_jmp, ri_nx] at h
    repeat' split at h
    all_goals cases h
  | goto =>
    exfalso
    simp only [ri_ex, ri_xla, ri_xli, ri_xll, ri_xsi, ri_xsa, ri_xsl, ri_xinc, ri_xdup, ri_xdup2, ri_x2, ri_xd, ri_x2l, ri_xsh, ri_xl2i, ri_xi2c, ri_xcm, ri_xi2l, ri_xpop, ri_xldi, ri_xif, ri_xic, ri_xnn, ri_xnu, ri_xts, ri_xlo, ri_xgf, ri_xpf, ri_xia, ri_xja, ri_xaa, ri_xis, ri_xjs, ri_xas, ri_xal, ri_xnew, ri_xna, ri_xan, ri_xld, ri_xcp, ri_xmn, ri_xmx, ri_jmp, ri_nx] at h
    repeat' split at h
    all_goals cases h
  | ifCond =>
    exfalso
    simp only [ri_ex, ri_xla, ri_xli, ri_xll, ri_xsi, ri_xsa, ri_xsl, ri_xinc, ri_xdup, ri_xdup2, ri_x2, ri_xd, ri_x2l, ri_xsh, ri_xl2i, ri_xi2c, ri_xcm, ri_xi2l, ri_xpop, ri_xldi, ri_xif, ri_xic, ri_xnn, ri_xnu, ri_xts, ri_xlo, ri_xgf, ri_xpf, ri_xia, ri_xja, ri_xaa, ri_xis, ri_xjs, ri_xas, ri_xal, ri_xnew, ri_xna, ri_xan, ri_xld, ri_xcp, ri_xmn, ri_xmx, ri_jmp, ri_nx] at h
    repeat' split at h
    all_goals cases h
  | if_icmp =>
    exfalso
    simp only [ri_ex, ri_xla, ri_xli, ri_xll, ri_xsi, ri_xsa, ri_xsl, ri_xinc, ri_xdup, ri_xdup2, ri_x2, ri_xd, ri_x2l, ri_xsh, ri_xl2i, ri_xi2c, ri_xcm, ri_xi2l, ri_xpop, ri_xldi, ri_xif, ri_xic, ri_xnn, ri_xnu, ri_xts, ri_xlo, ri_xgf, ri_xpf, ri_xia, ri_xja, ri_xaa, ri_xis, ri_xjs, ri_xas, ri_xal, ri_xnew, ri_xna, ri_xan, ri_xld, ri_xcp, ri_xmn, ri_xmx, ri_jmp, ri_nx] at h
    repeat' split at h
    all_goals cases h
  | ifnonnull =>
    exfalso
    simp only [ri_ex, ri_xla, ri_xli, ri_xll, ri_xsi, ri_xsa, ri_xsl, ri_xinc, ri_xdup, ri_xdup2, ri_x2, ri_xd, ri_x2l, ri_xsh, ri_xl2i, ri_xi2c, ri_xcm, ri_xi2l, ri_xpop, ri_xldi, ri_xif, ri_xic, ri_xnn, ri_xnu, ri_xts, ri_xlo, ri_xgf, ri_xpf, ri_xia, ri_xja, ri_xaa, ri_xis, ri_xjs, ri_xas, ri_xal, ri_xnew, ri_xna, ri_xan, ri_xld, ri_xcp, ri_xmn, ri_xmx, ri_jmp, ri_nx] at h
    repeat' split at h
    all_goals cases h
  | ifnull =>
    exfalso
    simp only [ri_ex, ri_xla, ri_xli, ri_xll, ri_xsi, ri_xsa, ri_xsl, ri_xinc, ri_xdup, ri_xdup2, ri_x2, ri_xd, ri_x2l, ri_xsh, ri_xl2i, ri_xi2c, ri_xcm, ri_xi2l, ri_xpop, ri_xldi, ri_xif, ri_xic, ri_xnn, ri_xnu, ri_xts, ri_xlo, ri_xgf, ri_xpf, ri_xia, ri_xja, ri_xaa, ri_xis, ri_xjs, ri_xas, ri_xal, ri_xnew, ri_xna, ri_xan, ri_xld, ri_xcp, ri_xmn, ri_xmx, ri_jmp, ri_nx] at h
    repeat' split at h
    all_goals cases h
  | tableswitch =>
    exfalso
    simp only [ri_ex, ri_xla, ri_xli, ri_xll, ri_xsi, ri_xsa, ri_xsl, ri_xinc, ri_xdup, ri_xdup2, ri_x2, ri_xd, ri_x2l, ri_xsh, ri_xl2i, ri_xi2c, ri_xcm, ri_xi2l, ri_xpop, ri_xldi, ri_xif, ri_xic, ri_xnn, ri_xnu, ri_xts, ri_xlo, ri_xgf, ri_xpf, ri_xia, ri_xja, ri_xaa, ri_xis, ri_xjs, ri_xas, ri_xal, ri_xnew, ri_xna, ri_xan, ri_xld, ri_xcp, ri_xmn, ri_xmx, ri_jmp, ri_nx] at h
    repeat' split at h
    all_goals cases h
  | lookupswitch =>
    exfalso
    simp only [ri_ex, ri_xla, ri_xli, ri_xll, ri_xsi, ri_xsa, ri_xsl, ri_xinc, ri_xdup, ri_xdup2, ri_x2, ri_xd, ri_x2l, ri_xsh, ri_xl2i, ri_xi2c, ri_xcm, ri_xi2l, ri_xpop, ri_xldi, ri_xif, ri_xic, ri_xnn, ri_xnu, ri_xts, ri_xlo, ri_xgf, ri_xpf, ri_xia, ri_xja, ri_xaa, ri_xis, ri_xjs, ri_xas, ri_xal, ri_xnew, ri_xna, ri_xan, ri_xld, ri_xcp, ri_xmn, ri_xmx, ri_jmp, ri_nx] at h
    repeat' split at h
    all_goals cases h
  | getfield =>
    exfalso
    simp only [ri_ex, ri_xla, ri_xli, ri_xll, ri_xsi, ri_xsa, ri_xsl, ri_xinc, ri_xdup, ri_xdup2, ri_x2, ri_xd, ri_x2l, ri_xsh, ri_xl2i, ri_xi2c, ri_xcm, ri_xi2l, ri_xpop, ri_xldi, ri_xif, ri_xic, ri_xnn, ri_xnu, ri_xts, ri_xlo, ri_xgf, ri_xpf, ri_xia, ri_xja, ri_xaa, ri_xis, ri_xjs, ri_xas, ri_xal, ri_xnew, ri_xna, ri_xan, ri_xld, ri_xcp, ri_xmn, ri_xmx, ri_jmp, ri_nx] at h
    repeat' split at h
    all_goals cases h
  | iaload =>
    exfalso
    simp only [ri_ex, ri_xla, ri_xli, ri_xll, ri_xsi, ri_xsa, ri_xsl, ri_xinc, ri_xdup, ri_xdup2, ri_x2, ri_xd, ri_x2l, ri_xsh, ri_xl2i, ri_xi2c, ri_xcm, ri_xi2l, ri_xpop, ri_xldi, ri_xif, ri_xic, ri_xnn, ri_xnu, ri_xts, ri_xlo, ri_xgf, ri_xpf, ri_xia, ri_xja, ri_xaa, ri_xis, ri_xjs, ri_xas, ri_xal, ri_xnew, ri_xna, ri_xan, ri_xld, ri_xcp, ri_xmn, ri_xmx, ri_jmp, ri_nx] at h
    repeat' split at h
    all_goals cases h
  | laload =>
    exfalso
    simp only [ri_ex, ri_xla, ri_xli, ri_xll, ri_xsi, ri_xsa, ri_xsl, ri_xinc, ri_xdup, ri_xdup2, ri_x2, ri_xd, ri_x2l, ri_xsh, ri_xl2i, ri_xi2c, ri_xcm, ri_xi2l, ri_xpop, ri_xldi, ri_xif, ri_xic, ri_xnn, ri_xnu, ri_xts, ri_xlo, ri_xgf, ri_xpf, ri_xia, ri_xja, ri_xaa, ri_xis, ri_xjs, ri_xas, ri_xal, ri_xnew, ri_xna, ri_xan, ri_xld, ri_xcp, ri_xmn, ri_xmx, ri_jmp, ri_nx] at h
    repeat' split at h
    all_goals cases h
  | aaload =>
    exfalso
    simp only [ri_ex, ri_xla, ri_xli, ri_xll, ri_xsi, ri_xsa, ri_xsl, ri_xinc, ri_xdup, ri_xdup2, ri_x2, ri_xd, ri_x2l, ri_xsh, ri_xl2i, ri_xi2c, ri_xcm, ri_xi2l, ri_xpop, ri_xldi, ri_xif, ri_xic, ri_xnn, ri_xnu, ri_xts, ri_xlo, ri_xgf, ri_xpf, ri_xia, ri_xja, ri_xaa, ri_xis, ri_xjs, ri_xas, ri_xal, ri_xnew, ri_xna, ri_xan, ri_xld, ri_xcp, ri_xmn, ri_xmx, ri_jmp, ri_nx] at h
    repeat' split at h
    all_goals cases h
  | arraylength =>
    exfalso
    simp only [ri_ex, ri_xla, ri_xli, ri_xll, ri_xsi, ri_xsa, ri_xsl, ri_xinc, ri_xdup, ri_xdup2, ri_x2, ri_xd, ri_x2l, ri_xsh, ri_xl2i, ri_xi2c, ri_xcm, ri_xi2l, ri_xpop, ri_xldi, ri_xif, ri_xic, ri_xnn, ri_xnu, ri_xts, ri_xlo, ri_xgf, ri_xpf, ri_xia, ri_xja, ri_xaa, ri_xis, ri_xjs, ri_xas, ri_xal, ri_xnew, ri_xna, ri_xan, ri_xld, ri_xcp, ri_xmn, ri_xmx, ri_jmp, ri_nx] at h
    repeat' split at h
    all_goals cases h
  | ldc2_w =>
    exfalso
    simp only [ri_ex, ri_xla, ri_xli, ri_xll, ri_xsi, ri_xsa, ri_xsl, ri_xinc, ri_xdup, ri_xdup2, ri_x2, ri_xd, ri_x2l, ri_xsh, ri_xl2i, ri_xi2c, ri_xcm, ri_xi2l, ri_xpop, ri_xldi, ri_xif, ri_xic, ri_xnn, ri_xnu, ri_xts, ri_xlo, ri_xgf, ri_xpf, ri_xia, ri_xja, ri_xaa, ri_xis, ri_xjs, ri_xas, ri_xal, ri_xnew, ri_xna, ri_xan, ri_xld, ri_xcp, ri_xmn, ri_xmx, ri_jmp, ri_nx] at h
    repeat' split at h
    all_goals cases h
  | putfield =>
    exfalso
    simp only [ri_ex, ri_xla, ri_xli, ri_xll, ri_xsi, ri_xsa, ri_xsl, ri_xinc, ri_xdup, ri_xdup2, ri_x2, ri_xd, ri_x2l, ri_xsh, ri_xl2i, ri_xi2c, ri_xcm, ri_xi2l, ri_xpop, ri_xldi, ri_xif, ri_xic, ri_xnn, ri_xnu, ri_xts, ri_xlo, ri_xgf, ri_xpf, ri_xia, ri_xja, ri_xaa, ri_xis, ri_xjs, ri_xas, ri_xal, ri_xnew, ri_xna, ri_xan, ri_xld, ri_xcp, ri_xmn, ri_xmx, ri_jmp, ri_nx] at h
    repeat' split at h
    all_goals cases h
  | iastore =>
    exfalso
    simp only [ri_ex, ri_xla, ri_xli, ri_xll, ri_xsi, ri_xsa, ri_xsl, ri_xinc, ri_xdup, ri_xdup2, ri_x2, ri_xd, ri_x2l, ri_xsh, ri_xl2i, ri_xi2c, ri_xcm, ri_xi2l, ri_xpop, ri_xldi, ri_xif, ri_xic, ri_xnn, ri_xnu, ri_xts, ri_xlo, ri_xgf, ri_xpf, ri_xia, ri_xja, ri_xaa, ri_xis, ri_xjs, ri_xas, ri_xal, ri_xnew, ri_xna, ri_xan, ri_xld, ri_xcp, ri_xmn, ri_xmx, ri_jmp, ri_nx] at h
    repeat' split at h
    all_goals cases h
  | lastore =>
    exfalso
    simp only [ri_ex, ri_xla, ri_xli, ri_xll, ri_xsi, ri_xsa, ri_xsl, ri_xinc, ri_xdup, ri_xdup2, ri_x2, ri_xd, ri_x2l, ri_xsh, ri_xl2i, ri_xi2c, ri_xcm, ri_xi2l, ri_xpop, ri_xldi, ri_xif, ri_xic, ri_xnn, ri_xnu, ri_xts, ri_xlo, ri_xgf, ri_xpf, ri_xia, ri_xja, ri_xaa, ri_xis, ri_xjs, ri_xas, ri_xal, ri_xnew, ri_xna, ri_xan, ri_xld, ri_xcp, ri_xmn, ri_xmx, ri_jmp, ri_nx] at h
    repeat' split at h
    all_goals cases h
  | aastore =>
    exfalso
    simp only [ri_ex, ri_xla, ri_xli, ri_xll, ri_xsi, ri_xsa, ri_xsl, ri_xinc, ri_xdup, ri_xdup2, ri_x2, ri_xd, ri_x2l, ri_xsh, ri_xl2i, ri_xi2c, ri_xcm, ri_xi2l, ri_xpop, ri_xldi, ri_xif, ri_xic, ri_xnn, ri_xnu, ri_xts, ri_xlo, ri_xgf, ri_xpf, ri_xia, ri_xja, ri_xaa, ri_xis, ri_xjs, ri_xas, ri_xal, ri_xnew, ri_xna, ri_xan, ri_xld, ri_xcp, ri_xmn, ri_xmx, ri_jmp, ri_nx] at h
    repeat' split at h
    all_goals cases h
  | new =>
    exfalso
    simp only [ri_ex, ri_xla, ri_xli, ri_xll, ri_xsi, ri_xsa, ri_xsl, ri_xinc, ri_xdup, ri_xdup2, ri_x2, ri_xd, ri_x2l, ri_xsh, ri_xl2i, ri_xi2c, ri_xcm, ri_xi2l, ri_xpop, ri_xldi, ri_xif, ri_xic, ri_xnn, ri_xnu, ri_xts, ri_xlo, ri_xgf, ri_xpf, ri_xia, ri_xja, ri_xaa, ri_xis, ri_xjs, ri_xas, ri_xal, ri_xnew, ri_xna, ri_xan, ri_xld, ri_xcp, ri_xmn, ri_xmx, ri_jmp, ri_nx] at h
    repeat' split at h
    all_goals cases h
  | newarray =>
    exfalso
    simp only [ri_ex, ri_xla, ri_xli, ri_xll, ri_xsi, ri_xsa, ri_xsl, ri_xinc, ri_xdup, ri_xdup2, ri_x2, ri_xd, ri_x2l, ri_xsh, ri_xl2i, ri_xi2c, ri_xcm, ri_xi2l, ri_xpop, ri_xldi, ri_xif, ri_xic, ri_xnn, ri_xnu, ri_xts, ri_xlo, ri_xgf, ri_xpf, ri_xia, ri_xja, ri_xaa, ri_xis, ri_xjs, ri_xas, ri_xal, ri_xnew, ri_xna, ri_xan, ri_xld, ri_xcp, ri_xmn, ri_xmx, ri_jmp, ri_nx] at h
    repeat' split at h
    all_goals cases h
  | anewarray =>
    exfalso
    simp only [ri_ex, ri_xla, ri_xli, ri_xll, ri_xsi, ri_xsa, ri_xsl, ri_xinc, ri_xdup, ri_xdup2, ri_x2, ri_xd, ri_x2l, ri_xsh, ri_xl2i, ri_xi2c, ri_xcm, ri_xi2l, ri_xpop, ri_xldi, ri_xif, ri_xic, ri_xnn, ri_xnu, ri_xts, ri_xlo, ri_xgf, ri_xpf, ri_xia, ri_xja, ri_xaa, ri_xis, ri_xjs, ri_xas, ri_xal, ri_xnew, ri_xna, ri_xan, ri_xld, ri_xcp, ri_xmn, ri_xmx, ri_jmp, ri_nx] at h
    repeat' split at h
    all_goals cases h
  | _ => cases h
/-- what a call is made with -/
theorem ri_ex_call {i : Instr} {zz : Nat} {as : List Value} {c' : ri_C} (h : ri_ex y sc i pc ls st w = some (.inr (.inr (zz, as, c')))) :
    ∃ ix e0, ri_mlk (ri_ow y) ix = some e0 ∧ zz = e0.2.2.2.1 ∧ ∃ r, c' = (pc + 3, ls, r, w) ∧ ri_sh r = true ∧
      ((i = .invokevirtual ix ∧ e0.2.2.1 = 0 ∧ ∃ a As, as = .ref a :: As ∧ st = As.reverse ++ .ref a :: r ∧ As.length = ri_na zz ∧ (ri_gO w a).map (fun o => o.1) = some (ri_ow zz) ∧ ri_ow zz < 5) ∨
       (i = .invokestatic ix ∧ (e0.2.2.1 = 1 ∨ e0.2.2.1 = 2) ∧ st = as.reverse ++ r ∧ as.length = ri_na zz) ∨
       (i = .invokespecial ix ∧ e0.2.2.1 = 3 ∧ ∃ a As, as = .ref a :: As ∧ st = As.reverse ++ .ref a :: r ∧ As.length = ri_na zz)) := by
  have hdrop : ∀ {n : Nat} {q : Value} {r : List Value}, st.drop n = q :: r → (st.take n).length = n ∧ st = (st.take n).reverse.reverse ++ q :: r := by
    intro n q r hq
    have hl : n < st.length := by
      rcases Nat.lt_or_ge n st.length with g | g
      · exact g
      · rw [List.drop_eq_nil_of_le g] at hq; cases hq
    refine ⟨by rw [List.length_take]; omega, ?_⟩
    rw [List.reverse_reverse, ← hq, List.take_append_drop]
  rcases ri_ex_end h with rfl | rfl | rfl | rfl | ⟨ix, rfl⟩ | ⟨ix, rfl⟩ | ⟨ix, rfl⟩
  · exfalso
    simp only [ri_ex, ri_xir, ri_ret] at h
    repeat' split at h
    all_goals cases h
  · exfalso
    simp only [ri_ex, ri_xar, ri_ret] at h
    repeat' split at h
    all_goals cases h
  · exfalso
    simp only [ri_ex, ri_xlr, ri_ret] at h
    repeat' split at h
    all_goals cases h
  · exfalso
    simp only [ri_ex, ri_xvr, ri_ret] at h
    repeat' split at h
    all_goals cases h
  · simp only [ri_ex] at h
    unfold ri_xiv at h
    split at h
    · rename_i e0 he
      split at h
      · rename_i hk
        split at h
        · rename_i a r hq
          split at h
          · rename_i hc
            unfold ri_call at h
            cases h
            obtain ⟨g1, g2⟩ := hdrop hq
            exact ⟨ix, e0, he, rfl, r, rfl, hc.1, Or.inl ⟨rfl, hk, a, _, rfl, g2, by rw [List.length_reverse]; exact g1, hc.2.1, hc.2.2⟩⟩
          · cases h
        · cases h
      · cases h
    · cases h
  · simp only [ri_ex] at h
    unfold ri_xis_ at h
    split at h
    · rename_i e0 he
      split at h
      · rename_i hk
        split at h
        · rename_i hc
          unfold ri_call at h
          cases h
          exact ⟨ix, e0, he, rfl, _, rfl, hc.2, Or.inr (Or.inl ⟨rfl, hk, by rw [List.reverse_reverse, List.take_append_drop], by rw [List.length_reverse, List.length_take]; omega⟩)⟩
        · cases h
      · exfalso
        simp only [ri_xmn, ri_xmx, ri_xcp, ri_nx] at h
        repeat' split at h
        all_goals cases h
    · cases h
  · simp only [ri_ex] at h
    unfold ri_xip at h
    split at h
    · rename_i e0 he
      split at h
      · rename_i hk
        split at h
        · rename_i a r hq
          split at h
          · rename_i hc
            unfold ri_call at h
            cases h
            obtain ⟨g1, g2⟩ := hdrop hq
            exact ⟨ix, e0, he, rfl, r, rfl, hc, Or.inr (Or.inr ⟨rfl, hk, a, _, rfl, g2, by rw [List.length_reverse]; exact g1⟩)⟩
          · cases h
        · cases h
      · exfalso
        simp only [ri_nx] at h
        repeat' split at h
        all_goals cases h
    · cases h
/-- what a run ends with -/
theorem ri_ex_ret {i : Instr} {x : ri_X} (h : ri_ex y sc i pc ls st w = some (.inr (.inl x))) : x.2 = w ∧ ((i = .ireturn ∧ ∃ v, st = [.int v] ∧ x.1 = some (.int v) ∧ ri_okr (ri_rt y) v = true) ∨ (i = .areturn ∧ ∃ a nm, st = [.ref a] ∧ x.1 = some (.ref a) ∧ ri_rt y = some (.object nm)) ∨ (i = .lreturn ∧ ∃ v, st = [.long v] ∧ x.1 = some (.long v) ∧ ri_rt y = some .long) ∨ (i = .return_ ∧ st = [] ∧ x.1 = none ∧ ri_rt y = none)) := by
  rcases ri_ex_end h with rfl | rfl | rfl | rfl | ⟨ix, rfl⟩ | ⟨ix, rfl⟩ | ⟨ix, rfl⟩
  · simp only [ri_ex, ri_xir, ri_ret] at h
    split at h
    · rename_i v
      split at h
      · rename_i hk
        cases h
        exact ⟨rfl, Or.inl ⟨rfl, v, rfl, rfl, hk⟩⟩
      · cases h
    · cases h
  · simp only [ri_ex, ri_xar, ri_ret] at h
    split at h
    · rename_i a
      split at h
      · rename_i nm hk
        cases h
        exact ⟨rfl, Or.inr (Or.inl ⟨rfl, a, nm, rfl, rfl, hk⟩)⟩
      · cases h
    · cases h
  · simp only [ri_ex, ri_xlr, ri_ret] at h
    split at h
    · rename_i v
      split at h
      · rename_i hk
        cases h
        exact ⟨rfl, Or.inr (Or.inr (Or.inl ⟨rfl, v, rfl, rfl, hk⟩))⟩
      · cases h
    · cases h
  · simp only [ri_ex, ri_xvr, ri_ret] at h
    split at h
    · split at h
      · rename_i hk
        cases h
        exact ⟨rfl, Or.inr (Or.inr (Or.inr ⟨rfl, rfl, rfl, hk⟩))⟩
      · cases h
    · cases h
  · exfalso
    simp only [ri_ex, ri_xiv, ri_call] at h
    repeat' split at h
    all_goals cases h
  · exfalso
    simp only [ri_ex, ri_xis_, ri_xmn, ri_xmx, ri_xcp, ri_call, ri_nx] at h
    repeat' split at h
    all_goals cases h
  · exfalso
    simp only [ri_ex, ri_xip, ri_call, ri_nx] at h
    repeat' split at h
    all_goals cases h
/-- one step of a run -/
theorem ri_run_succ {n : Nat} {cf : ri_C} {x : ri_X} (h : ri_run sc (n + 1) y cf = some x) : ∃ i len, decode (ri_bc y) cf.1 = .ok (i, len) ∧ ri_lok i len = true ∧
    ((∃ c', ri_ex y sc i cf.1 cf.2.1 cf.2.2.1 cf.2.2.2 = some (.inl c') ∧ ri_run sc n y c' = some x) ∨ ri_ex y sc i cf.1 cf.2.1 cf.2.2.1 cf.2.2.2 = some (.inr (.inl x)) ∨
      ∃ zz as c' x1, ri_ex y sc i cf.1 cf.2.1 cf.2.2.1 cf.2.2.2 = some (.inr (.inr (zz, as, c'))) ∧ (ri_rk zz < ri_rk y ∧ zz < 100 ∧ (lg_sl as).length ≤ ri_ml zz) ∧ ri_run sc n zz (0, lv_args 0 as, [], c'.2.2.2) = some x1 ∧ ri_run sc n y (c'.1, c'.2.1, x1.1.toList ++ c'.2.2.1, x1.2) = some x) := by
  unfold ri_run at h
  split at h
  · cases h
  · rename_i i len hd
    split at h
    · rename_i hl
      split at h
      · cases h
      · rename_i c' he
        exact ⟨i, len, hd, hl, Or.inl ⟨c', he, h⟩⟩
      · rename_i x' he
        cases h
        exact ⟨i, len, hd, hl, Or.inr (Or.inl he)⟩
      · rename_i zz as c' he
        split at h
        · rename_i hq
          split at h
          · rename_i x1 hr
            exact ⟨i, len, hd, hl, Or.inr (Or.inr ⟨zz, as, c', x1, he, hq, hr, h⟩)⟩
          · cases h
        · cases h
    · cases h
theorem ri_run_mono : ∀ (n y : Nat) (cf : ri_C) (x : ri_X), ri_run sc n y cf = some x → cf.2.2.2.length ≤ x.2.length ∧ ri_ns cf.2.2.2 ≤ ri_ns x.2 := by
  intro n
  induction n with
  | zero => intro y cf x h; cases h
  | succ n ih =>
    intro y cf x h
    obtain ⟨i, len, hd, hl, ⟨c', he, h⟩ | he | ⟨zz, as, c', x1, he, -, h1, h2⟩⟩ := ri_run_succ h
    · have g1 := ri_ex_mono he
      have g2 := ih y c' x h
      exact ⟨Nat.le_trans g1.1 g2.1, Nat.le_trans g1.2 g2.2⟩
    · have := (ri_ex_ret he).1
      rw [this]
      exact ⟨Nat.le_refl _, Nat.le_refl _⟩
    · obtain ⟨ix, e0, -, -, r, rfl, -⟩ := ri_ex_call he
      have g1 := ih _ _ _ h1
      have g2 := ih _ _ _ h2
      exact ⟨Nat.le_trans g1.1 g2.1, Nat.le_trans g1.2 g2.2⟩
end

