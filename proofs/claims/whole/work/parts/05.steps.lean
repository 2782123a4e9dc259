section
variable {D : va_G} {cI cJ cS : ClassId} {z b : Nat} {sc : Nat × (Nat → Int32)} {p : Program} {l : Launch} {e : Env} {R : Room} {s : State} {m : MethodId} {args : Array Value} {below : List Frame} {meth : Method} {c : Code} {Q : State → Prop} {y n0 s0 pc : Nat} {ls : ri_L} {st : List Value} {w : ri_W} {c' : ri_C}
theorem ri_s_aload_n (C : ri_At D cI cJ cS z b sc R p s m args meth c y) {i : Fin 4} (hd : decode (ri_bc y) pc = .ok (.aload_n i, 1)) (h : ri_xla (pc + 1) (ri_lv ls i) ls st w = some (.inl c')) (k : ri_G D cI cJ cS z b p l e R s m args below meth c Q y n0 s0 c') : ri_G D cI cJ cS z b p l e R s m args below meth c Q y n0 s0 (pc, ls, st, w) := by
  obtain ⟨hx, hb, hr, hml, hown, hts, hlocks, hini, hK, hX, hbz, hfr, hlo⟩ := C
  unfold ri_xla at h
  split at h
  · next x hv =>
      cases h
      intro H locs lm h1 h2 h3 h4
      exact lv_aload_n hx hb hd rfl (ri_lv_has h4 hv) (k H locs lm h1 h2 h3 h4)
  · next x hv =>
      cases h
      intro H locs lm h1 h2 h3 h4
      exact lv_aload_n hx hb hd rfl (ri_lv_has h4 hv) (k H locs lm h1 h2 h3 h4)
  · cases h
theorem ri_s_iload_n (C : ri_At D cI cJ cS z b sc R p s m args meth c y) {i : Fin 4} (hd : decode (ri_bc y) pc = .ok (.iload_n i, 1)) (h : ri_xli (pc + 1) (ri_lv ls i) ls st w = some (.inl c')) (k : ri_G D cI cJ cS z b p l e R s m args below meth c Q y n0 s0 c') : ri_G D cI cJ cS z b p l e R s m args below meth c Q y n0 s0 (pc, ls, st, w) := by
  obtain ⟨hx, hb, hr, hml, hown, hts, hlocks, hini, hK, hX, hbz, hfr, hlo⟩ := C
  unfold ri_xli at h
  split at h
  · next x hv =>
      cases h
      intro H locs lm h1 h2 h3 h4
      exact lv_iload_n hx hb hd rfl (ri_lv_has h4 hv) (k H locs lm h1 h2 h3 h4)
  · cases h
theorem ri_s_iload (C : ri_At D cI cJ cS z b sc R p s m args meth c y) {i : Nat} (hd : decode (ri_bc y) pc = .ok (.iload i, 2)) (h : ri_xli (pc + 2) (ri_lv ls i) ls st w = some (.inl c')) (k : ri_G D cI cJ cS z b p l e R s m args below meth c Q y n0 s0 c') : ri_G D cI cJ cS z b p l e R s m args below meth c Q y n0 s0 (pc, ls, st, w) := by
  obtain ⟨hx, hb, hr, hml, hown, hts, hlocks, hini, hK, hX, hbz, hfr, hlo⟩ := C
  unfold ri_xli at h
  split at h
  · next x hv =>
      cases h
      intro H locs lm h1 h2 h3 h4
      exact lv_iload hx hb hd (ri_lv_has h4 hv) (k H locs lm h1 h2 h3 h4)
  · cases h
theorem ri_s_lload_n (C : ri_At D cI cJ cS z b sc R p s m args meth c y) {i : Fin 4} (hd : decode (ri_bc y) pc = .ok (.lload_n i, 1)) (h : ri_xll (pc + 1) (ri_lv ls i) ls st w = some (.inl c')) (k : ri_G D cI cJ cS z b p l e R s m args below meth c Q y n0 s0 c') : ri_G D cI cJ cS z b p l e R s m args below meth c Q y n0 s0 (pc, ls, st, w) := by
  obtain ⟨hx, hb, hr, hml, hown, hts, hlocks, hini, hK, hX, hbz, hfr, hlo⟩ := C
  unfold ri_xll at h
  split at h
  · next x hv =>
      cases h
      intro H locs lm h1 h2 h3 h4
      exact lv_lload_n hx hb hd rfl (ri_lv_has h4 hv) (k H locs lm h1 h2 h3 h4)
  · cases h
theorem ri_s_lload (C : ri_At D cI cJ cS z b sc R p s m args meth c y) {i : Nat} (hd : decode (ri_bc y) pc = .ok (.lload i, 2)) (h : ri_xll (pc + 2) (ri_lv ls i) ls st w = some (.inl c')) (k : ri_G D cI cJ cS z b p l e R s m args below meth c Q y n0 s0 c') : ri_G D cI cJ cS z b p l e R s m args below meth c Q y n0 s0 (pc, ls, st, w) := by
  obtain ⟨hx, hb, hr, hml, hown, hts, hlocks, hini, hK, hX, hbz, hfr, hlo⟩ := C
  unfold ri_xll at h
  split at h
  · next x hv =>
      cases h
      intro H locs lm h1 h2 h3 h4
      exact lv_lload hx hb hd (ri_lv_has h4 hv) (k H locs lm h1 h2 h3 h4)
  · cases h
theorem ri_s_iconst (C : ri_At D cI cJ cS z b sc R p s m args meth c y) {n : Int} (hd : decode (ri_bc y) pc = .ok (.iconst n, 1)) (h : ri_nx (pc + 1) ls (.int (Int32.ofInt n) :: st) w = some (.inl c')) (k : ri_G D cI cJ cS z b p l e R s m args below meth c Q y n0 s0 c') : ri_G D cI cJ cS z b p l e R s m args below meth c Q y n0 s0 (pc, ls, st, w) := by
  obtain ⟨hx, hb, hr, hml, hown, hts, hlocks, hini, hK, hX, hbz, hfr, hlo⟩ := C
  unfold ri_nx at h
  cases h
  intro H locs lm h1 h2 h3 h4
  exact lv_iconst hx hb hd rfl (k H locs lm h1 h2 h3 h4)
theorem ri_s_bipush (C : ri_At D cI cJ cS z b sc R p s m args meth c y) {n : Int} (hd : decode (ri_bc y) pc = .ok (.bipush n, 2)) (h : ri_nx (pc + 2) ls (.int (Int8.ofInt n).toInt32 :: st) w = some (.inl c')) (k : ri_G D cI cJ cS z b p l e R s m args below meth c Q y n0 s0 c') : ri_G D cI cJ cS z b p l e R s m args below meth c Q y n0 s0 (pc, ls, st, w) := by
  obtain ⟨hx, hb, hr, hml, hown, hts, hlocks, hini, hK, hX, hbz, hfr, hlo⟩ := C
  unfold ri_nx at h
  cases h
  intro H locs lm h1 h2 h3 h4
  exact lv_bipush hx hb hd rfl (k H locs lm h1 h2 h3 h4)
theorem ri_s_sipush (C : ri_At D cI cJ cS z b sc R p s m args meth c y) {n : Int} (hd : decode (ri_bc y) pc = .ok (.sipush n, 3)) (h : ri_nx (pc + 3) ls (.int (Int16.ofInt n).toInt32 :: st) w = some (.inl c')) (k : ri_G D cI cJ cS z b p l e R s m args below meth c Q y n0 s0 c') : ri_G D cI cJ cS z b p l e R s m args below meth c Q y n0 s0 (pc, ls, st, w) := by
  obtain ⟨hx, hb, hr, hml, hown, hts, hlocks, hini, hK, hX, hbz, hfr, hlo⟩ := C
  unfold ri_nx at h
  cases h
  intro H locs lm h1 h2 h3 h4
  exact lv_sipush hx hb hd rfl (k H locs lm h1 h2 h3 h4)
theorem ri_s_lconst (C : ri_At D cI cJ cS z b sc R p s m args meth c y) {n : Fin 2} (hd : decode (ri_bc y) pc = .ok (.lconst n, 1)) (h : ri_nx (pc + 1) ls (.long (Int64.ofNat n) :: st) w = some (.inl c')) (k : ri_G D cI cJ cS z b p l e R s m args below meth c Q y n0 s0 c') : ri_G D cI cJ cS z b p l e R s m args below meth c Q y n0 s0 (pc, ls, st, w) := by
  obtain ⟨hx, hb, hr, hml, hown, hts, hlocks, hini, hK, hX, hbz, hfr, hlo⟩ := C
  unfold ri_nx at h
  cases h
  intro H locs lm h1 h2 h3 h4
  exact lv_lconst hx hb hd rfl (k H locs lm h1 h2 h3 h4)
theorem ri_s_istore_n (C : ri_At D cI cJ cS z b sc R p s m args meth c y) {i : Fin 4} (hd : decode (ri_bc y) pc = .ok (.istore_n i, 1)) (h : ri_xsi y (pc + 1) i ls st w = some (.inl c')) (k : ri_G D cI cJ cS z b p l e R s m args below meth c Q y n0 s0 c') : ri_G D cI cJ cS z b p l e R s m args below meth c Q y n0 s0 (pc, ls, st, w) := by
  obtain ⟨hx, hb, hr, hml, hown, hts, hlocks, hini, hK, hX, hbz, hfr, hlo⟩ := C
  unfold ri_xsi at h
  split at h
  · next x r =>
    split at h
    · next hlt =>
      cases h
      intro H locs lm h1 h2 h3 h4
      exact lv_istore_n hx hb hd rfl h4 hlt rfl (fun lm' h' => k H locs lm' h1 h2 h3 (ri_s1_has (v := .int x) h'))
    · cases h
  · cases h
theorem ri_s_istore (C : ri_At D cI cJ cS z b sc R p s m args meth c y) {i : Nat} (hd : decode (ri_bc y) pc = .ok (.istore i, 2)) (h : ri_xsi y (pc + 2) i ls st w = some (.inl c')) (k : ri_G D cI cJ cS z b p l e R s m args below meth c Q y n0 s0 c') : ri_G D cI cJ cS z b p l e R s m args below meth c Q y n0 s0 (pc, ls, st, w) := by
  obtain ⟨hx, hb, hr, hml, hown, hts, hlocks, hini, hK, hX, hbz, hfr, hlo⟩ := C
  unfold ri_xsi at h
  split at h
  · next x r =>
    split at h
    · next hlt =>
      cases h
      intro H locs lm h1 h2 h3 h4
      exact lv_istore hx hb hd h4 hlt rfl (fun lm' h' => k H locs lm' h1 h2 h3 (ri_s1_has (v := .int x) h'))
    · cases h
  · cases h
theorem ri_s_astore_n (C : ri_At D cI cJ cS z b sc R p s m args meth c y) {i : Fin 4} (hd : decode (ri_bc y) pc = .ok (.astore_n i, 1)) (h : ri_xsa y (pc + 1) i ls st w = some (.inl c')) (k : ri_G D cI cJ cS z b p l e R s m args below meth c Q y n0 s0 c') : ri_G D cI cJ cS z b p l e R s m args below meth c Q y n0 s0 (pc, ls, st, w) := by
  obtain ⟨hx, hb, hr, hml, hown, hts, hlocks, hini, hK, hX, hbz, hfr, hlo⟩ := C
  unfold ri_xsa at h
  split at h
  · next x r =>
    split at h
    · next hlt =>
      cases h
      intro H locs lm h1 h2 h3 h4
      exact lv_astore_n hx hb hd rfl h4 hlt rfl (fun lm' h' => k H locs lm' h1 h2 h3 (ri_s1_has (v := .ref x) h'))
    · cases h
  · cases h
theorem ri_s_lstore_n (C : ri_At D cI cJ cS z b sc R p s m args meth c y) {i : Fin 4} (hd : decode (ri_bc y) pc = .ok (.lstore_n i, 1)) (h : ri_xsl y (pc + 1) i ls st w = some (.inl c')) (k : ri_G D cI cJ cS z b p l e R s m args below meth c Q y n0 s0 c') : ri_G D cI cJ cS z b p l e R s m args below meth c Q y n0 s0 (pc, ls, st, w) := by
  obtain ⟨hx, hb, hr, hml, hown, hts, hlocks, hini, hK, hX, hbz, hfr, hlo⟩ := C
  unfold ri_xsl at h
  split at h
  · next x r =>
    split at h
    · next hlt =>
      cases h
      intro H locs lm h1 h2 h3 h4
      exact lv_lstore_n hx hb hd rfl h4 hlt rfl (fun lm' h' => k H locs lm' h1 h2 h3 (ri_s2_has (v := .long x) h'))
    · cases h
  · cases h
theorem ri_s_lstore (C : ri_At D cI cJ cS z b sc R p s m args meth c y) {i : Nat} (hd : decode (ri_bc y) pc = .ok (.lstore i, 2)) (h : ri_xsl y (pc + 2) i ls st w = some (.inl c')) (k : ri_G D cI cJ cS z b p l e R s m args below meth c Q y n0 s0 c') : ri_G D cI cJ cS z b p l e R s m args below meth c Q y n0 s0 (pc, ls, st, w) := by
  obtain ⟨hx, hb, hr, hml, hown, hts, hlocks, hini, hK, hX, hbz, hfr, hlo⟩ := C
  unfold ri_xsl at h
  split at h
  · next x r =>
    split at h
    · next hlt =>
      cases h
      intro H locs lm h1 h2 h3 h4
      exact lv_lstore hx hb hd h4 hlt rfl (fun lm' h' => k H locs lm' h1 h2 h3 (ri_s2_has (v := .long x) h'))
    · cases h
  · cases h
theorem ri_s_iinc (C : ri_At D cI cJ cS z b sc R p s m args meth c y) {i : Nat} {n : Int} (hd : decode (ri_bc y) pc = .ok (.iinc i n, 3)) (h : ri_xinc y pc i n ls st w = some (.inl c')) (k : ri_G D cI cJ cS z b p l e R s m args below meth c Q y n0 s0 c') : ri_G D cI cJ cS z b p l e R s m args below meth c Q y n0 s0 (pc, ls, st, w) := by
  obtain ⟨hx, hb, hr, hml, hown, hts, hlocks, hini, hK, hX, hbz, hfr, hlo⟩ := C
  unfold ri_xinc at h
  split at h
  · next x hv =>
    split at h
    · next hlt =>
      cases h
      intro H locs lm h1 h2 h3 h4
      obtain ⟨k0, hk0⟩ := List.getElem?_of_mem (show (i, Value.int x) ∈ ri_cl z b ls from List.mem_map.mpr ⟨(i, .int x), ri_lv_mem hv, rfl⟩)
      exact lv_iinc hx hb hd h4 hk0 rfl hlt rfl (fun lm' h' => k H locs lm' h1 h2 h3 (ri_s1_has (v := .int (x + Int32.ofInt n)) h'))
    · cases h
  · cases h
theorem ri_s_dup (C : ri_At D cI cJ cS z b sc R p s m args meth c y)  (hd : decode (ri_bc y) pc = .ok (.dup, 1)) (h : ri_xdup pc ls st w = some (.inl c')) (k : ri_G D cI cJ cS z b p l e R s m args below meth c Q y n0 s0 c') : ri_G D cI cJ cS z b p l e R s m args below meth c Q y n0 s0 (pc, ls, st, w) := by
  obtain ⟨hx, hb, hr, hml, hown, hts, hlocks, hini, hK, hX, hbz, hfr, hlo⟩ := C
  unfold ri_xdup at h
  split at h
  · split at h
    · next hc =>
        cases h
        intro H locs lm h1 h2 h3 h4
        exact lv_dup hx hb hd (by rw [ri_cv_cat]; exact hc) (k H locs lm h1 h2 h3 h4)
    · cases h
  · cases h
theorem ri_s_dup2 (C : ri_At D cI cJ cS z b sc R p s m args meth c y)  (hd : decode (ri_bc y) pc = .ok (.dup2, 1)) (h : ri_xdup2 pc ls st w = some (.inl c')) (k : ri_G D cI cJ cS z b p l e R s m args below meth c Q y n0 s0 c') : ri_G D cI cJ cS z b p l e R s m args below meth c Q y n0 s0 (pc, ls, st, w) := by
  obtain ⟨hx, hb, hr, hml, hown, hts, hlocks, hini, hK, hX, hbz, hfr, hlo⟩ := C
  unfold ri_xdup2 at h
  split at h
  · split at h
    · next hc =>
        cases h
        intro H locs lm h1 h2 h3 h4
        exact lv_dup2_11 hx hb hd (by rw [ri_cv_cat]; exact hc.1) (by rw [ri_cv_cat]; exact hc.2) (k H locs lm h1 h2 h3 h4)
    · cases h
  · cases h
theorem ri_s_iadd (C : ri_At D cI cJ cS z b sc R p s m args meth c y)  (hd : decode (ri_bc y) pc = .ok (.iadd, 1)) (h : ri_x2 (fun x y => x + y) pc ls st w = some (.inl c')) (k : ri_G D cI cJ cS z b p l e R s m args below meth c Q y n0 s0 c') : ri_G D cI cJ cS z b p l e R s m args below meth c Q y n0 s0 (pc, ls, st, w) := by
  obtain ⟨hx, hb, hr, hml, hown, hts, hlocks, hini, hK, hX, hbz, hfr, hlo⟩ := C
  unfold ri_x2 at h
  split at h
  · cases h
    intro H locs lm h1 h2 h3 h4
    exact lv_iadd hx hb hd (k H locs lm h1 h2 h3 h4)
  · cases h
theorem ri_s_isub (C : ri_At D cI cJ cS z b sc R p s m args meth c y)  (hd : decode (ri_bc y) pc = .ok (.isub, 1)) (h : ri_x2 (fun x y => x - y) pc ls st w = some (.inl c')) (k : ri_G D cI cJ cS z b p l e R s m args below meth c Q y n0 s0 c') : ri_G D cI cJ cS z b p l e R s m args below meth c Q y n0 s0 (pc, ls, st, w) := by
  obtain ⟨hx, hb, hr, hml, hown, hts, hlocks, hini, hK, hX, hbz, hfr, hlo⟩ := C
  unfold ri_x2 at h
  split at h
  · cases h
    intro H locs lm h1 h2 h3 h4
    exact lv_isub hx hb hd (k H locs lm h1 h2 h3 h4)
  · cases h
theorem ri_s_imul (C : ri_At D cI cJ cS z b sc R p s m args meth c y)  (hd : decode (ri_bc y) pc = .ok (.imul, 1)) (h : ri_x2 (fun x y => x * y) pc ls st w = some (.inl c')) (k : ri_G D cI cJ cS z b p l e R s m args below meth c Q y n0 s0 c') : ri_G D cI cJ cS z b p l e R s m args below meth c Q y n0 s0 (pc, ls, st, w) := by
  obtain ⟨hx, hb, hr, hml, hown, hts, hlocks, hini, hK, hX, hbz, hfr, hlo⟩ := C
  unfold ri_x2 at h
  split at h
  · cases h
    intro H locs lm h1 h2 h3 h4
    exact lv_imul hx hb hd (k H locs lm h1 h2 h3 h4)
  · cases h
theorem ri_s_iand (C : ri_At D cI cJ cS z b sc R p s m args meth c y)  (hd : decode (ri_bc y) pc = .ok (.iand, 1)) (h : ri_x2 (fun x y => x &&& y) pc ls st w = some (.inl c')) (k : ri_G D cI cJ cS z b p l e R s m args below meth c Q y n0 s0 c') : ri_G D cI cJ cS z b p l e R s m args below meth c Q y n0 s0 (pc, ls, st, w) := by
  obtain ⟨hx, hb, hr, hml, hown, hts, hlocks, hini, hK, hX, hbz, hfr, hlo⟩ := C
  unfold ri_x2 at h
  split at h
  · cases h
    intro H locs lm h1 h2 h3 h4
    exact lv_iand hx hb hd (k H locs lm h1 h2 h3 h4)
  · cases h
theorem ri_s_ixor (C : ri_At D cI cJ cS z b sc R p s m args meth c y)  (hd : decode (ri_bc y) pc = .ok (.ixor, 1)) (h : ri_x2 (fun x y => x ^^^ y) pc ls st w = some (.inl c')) (k : ri_G D cI cJ cS z b p l e R s m args below meth c Q y n0 s0 c') : ri_G D cI cJ cS z b p l e R s m args below meth c Q y n0 s0 (pc, ls, st, w) := by
  obtain ⟨hx, hb, hr, hml, hown, hts, hlocks, hini, hK, hX, hbz, hfr, hlo⟩ := C
  unfold ri_x2 at h
  split at h
  · cases h
    intro H locs lm h1 h2 h3 h4
    exact lv_ixor hx hb hd (k H locs lm h1 h2 h3 h4)
  · cases h
theorem ri_s_ior (C : ri_At D cI cJ cS z b sc R p s m args meth c y)  (hd : decode (ri_bc y) pc = .ok (.ior, 1)) (h : ri_x2 (fun x y => x ||| y) pc ls st w = some (.inl c')) (k : ri_G D cI cJ cS z b p l e R s m args below meth c Q y n0 s0 c') : ri_G D cI cJ cS z b p l e R s m args below meth c Q y n0 s0 (pc, ls, st, w) := by
  obtain ⟨hx, hb, hr, hml, hown, hts, hlocks, hini, hK, hX, hbz, hfr, hlo⟩ := C
  unfold ri_x2 at h
  split at h
  · cases h
    intro H locs lm h1 h2 h3 h4
    exact lv_ior hx hb hd (k H locs lm h1 h2 h3 h4)
  · cases h
theorem ri_s_ishr (C : ri_At D cI cJ cS z b sc R p s m args meth c y)  (hd : decode (ri_bc y) pc = .ok (.ishr, 1)) (h : ri_x2 (fun x y => x >>> (y &&& 31)) pc ls st w = some (.inl c')) (k : ri_G D cI cJ cS z b p l e R s m args below meth c Q y n0 s0 c') : ri_G D cI cJ cS z b p l e R s m args below meth c Q y n0 s0 (pc, ls, st, w) := by
  obtain ⟨hx, hb, hr, hml, hown, hts, hlocks, hini, hK, hX, hbz, hfr, hlo⟩ := C
  unfold ri_x2 at h
  split at h
  · cases h
    intro H locs lm h1 h2 h3 h4
    exact lv_ishr hx hb hd (k H locs lm h1 h2 h3 h4)
  · cases h
theorem ri_s_idiv (C : ri_At D cI cJ cS z b sc R p s m args meth c y)  (hd : decode (ri_bc y) pc = .ok (.idiv, 1)) (h : ri_xd (fun x y => x / y) pc ls st w = some (.inl c')) (k : ri_G D cI cJ cS z b p l e R s m args below meth c Q y n0 s0 c') : ri_G D cI cJ cS z b p l e R s m args below meth c Q y n0 s0 (pc, ls, st, w) := by
  obtain ⟨hx, hb, hr, hml, hown, hts, hlocks, hini, hK, hX, hbz, hfr, hlo⟩ := C
  unfold ri_xd at h
  split at h
  · split at h
    · cases h
    · next hne =>
        cases h
        intro H locs lm h1 h2 h3 h4
        exact lv_idiv hx hb hd hne (k H locs lm h1 h2 h3 h4)
  · cases h
theorem ri_s_irem (C : ri_At D cI cJ cS z b sc R p s m args meth c y)  (hd : decode (ri_bc y) pc = .ok (.irem, 1)) (h : ri_xd (fun x y => x - x / y * y) pc ls st w = some (.inl c')) (k : ri_G D cI cJ cS z b p l e R s m args below meth c Q y n0 s0 c') : ri_G D cI cJ cS z b p l e R s m args below meth c Q y n0 s0 (pc, ls, st, w) := by
  obtain ⟨hx, hb, hr, hml, hown, hts, hlocks, hini, hK, hX, hbz, hfr, hlo⟩ := C
  unfold ri_xd at h
  split at h
  · split at h
    · cases h
    · next hne =>
        cases h
        intro H locs lm h1 h2 h3 h4
        exact lv_irem hx hb hd hne (k H locs lm h1 h2 h3 h4)
  · cases h
theorem ri_s_ladd (C : ri_At D cI cJ cS z b sc R p s m args meth c y)  (hd : decode (ri_bc y) pc = .ok (.ladd, 1)) (h : ri_x2l (fun x y => x + y) pc ls st w = some (.inl c')) (k : ri_G D cI cJ cS z b p l e R s m args below meth c Q y n0 s0 c') : ri_G D cI cJ cS z b p l e R s m args below meth c Q y n0 s0 (pc, ls, st, w) := by
  obtain ⟨hx, hb, hr, hml, hown, hts, hlocks, hini, hK, hX, hbz, hfr, hlo⟩ := C
  unfold ri_x2l at h
  split at h
  · cases h
    intro H locs lm h1 h2 h3 h4
    exact lv_ladd hx hb hd (k H locs lm h1 h2 h3 h4)
  · cases h
theorem ri_s_lsub (C : ri_At D cI cJ cS z b sc R p s m args meth c y)  (hd : decode (ri_bc y) pc = .ok (.lsub, 1)) (h : ri_x2l (fun x y => x - y) pc ls st w = some (.inl c')) (k : ri_G D cI cJ cS z b p l e R s m args below meth c Q y n0 s0 c') : ri_G D cI cJ cS z b p l e R s m args below meth c Q y n0 s0 (pc, ls, st, w) := by
  obtain ⟨hx, hb, hr, hml, hown, hts, hlocks, hini, hK, hX, hbz, hfr, hlo⟩ := C
  unfold ri_x2l at h
  split at h
  · cases h
    intro H locs lm h1 h2 h3 h4
    exact lv_lsub hx hb hd (k H locs lm h1 h2 h3 h4)
  · cases h
theorem ri_s_land (C : ri_At D cI cJ cS z b sc R p s m args meth c y)  (hd : decode (ri_bc y) pc = .ok (.land, 1)) (h : ri_x2l (fun x y => x &&& y) pc ls st w = some (.inl c')) (k : ri_G D cI cJ cS z b p l e R s m args below meth c Q y n0 s0 c') : ri_G D cI cJ cS z b p l e R s m args below meth c Q y n0 s0 (pc, ls, st, w) := by
  obtain ⟨hx, hb, hr, hml, hown, hts, hlocks, hini, hK, hX, hbz, hfr, hlo⟩ := C
  unfold ri_x2l at h
  split at h
  · cases h
    intro H locs lm h1 h2 h3 h4
    exact lv_land hx hb hd (k H locs lm h1 h2 h3 h4)
  · cases h
theorem ri_s_lmul (C : ri_At D cI cJ cS z b sc R p s m args meth c y)  (hd : decode (ri_bc y) pc = .ok (.lmul, 1)) (h : ri_x2l (fun x y => x * y) pc ls st w = some (.inl c')) (k : ri_G D cI cJ cS z b p l e R s m args below meth c Q y n0 s0 c') : ri_G D cI cJ cS z b p l e R s m args below meth c Q y n0 s0 (pc, ls, st, w) := by
  obtain ⟨hx, hb, hr, hml, hown, hts, hlocks, hini, hK, hX, hbz, hfr, hlo⟩ := C
  unfold ri_x2l at h
  split at h
  · cases h
    intro H locs lm h1 h2 h3 h4
    exact lv_lmul hx hb hd (k H locs lm h1 h2 h3 h4)
  · cases h
theorem ri_s_lor (C : ri_At D cI cJ cS z b sc R p s m args meth c y)  (hd : decode (ri_bc y) pc = .ok (.lor, 1)) (h : ri_x2l (fun x y => x ||| y) pc ls st w = some (.inl c')) (k : ri_G D cI cJ cS z b p l e R s m args below meth c Q y n0 s0 c') : ri_G D cI cJ cS z b p l e R s m args below meth c Q y n0 s0 (pc, ls, st, w) := by
  obtain ⟨hx, hb, hr, hml, hown, hts, hlocks, hini, hK, hX, hbz, hfr, hlo⟩ := C
  unfold ri_x2l at h
  split at h
  · cases h
    intro H locs lm h1 h2 h3 h4
    exact lv_lor hx hb hd (k H locs lm h1 h2 h3 h4)
  · cases h
theorem ri_s_lxor (C : ri_At D cI cJ cS z b sc R p s m args meth c y)  (hd : decode (ri_bc y) pc = .ok (.lxor, 1)) (h : ri_x2l (fun x y => x ^^^ y) pc ls st w = some (.inl c')) (k : ri_G D cI cJ cS z b p l e R s m args below meth c Q y n0 s0 c') : ri_G D cI cJ cS z b p l e R s m args below meth c Q y n0 s0 (pc, ls, st, w) := by
  obtain ⟨hx, hb, hr, hml, hown, hts, hlocks, hini, hK, hX, hbz, hfr, hlo⟩ := C
  unfold ri_x2l at h
  split at h
  · cases h
    intro H locs lm h1 h2 h3 h4
    exact lv_lxor hx hb hd (k H locs lm h1 h2 h3 h4)
  · cases h
theorem ri_s_lshl (C : ri_At D cI cJ cS z b sc R p s m args meth c y)  (hd : decode (ri_bc y) pc = .ok (.lshl, 1)) (h : ri_xsh (fun x y => x <<< (y.toInt64 &&& 63)) pc ls st w = some (.inl c')) (k : ri_G D cI cJ cS z b p l e R s m args below meth c Q y n0 s0 c') : ri_G D cI cJ cS z b p l e R s m args below meth c Q y n0 s0 (pc, ls, st, w) := by
  obtain ⟨hx, hb, hr, hml, hown, hts, hlocks, hini, hK, hX, hbz, hfr, hlo⟩ := C
  unfold ri_xsh at h
  split at h
  · cases h
    intro H locs lm h1 h2 h3 h4
    exact lv_lshl hx hb hd rfl (k H locs lm h1 h2 h3 h4)
  · cases h
theorem ri_s_lushr (C : ri_At D cI cJ cS z b sc R p s m args meth c y)  (hd : decode (ri_bc y) pc = .ok (.lushr, 1)) (h : ri_xsh (fun x y => (x.toUInt64 >>> (y.toInt64.toUInt64 &&& Int64.toUInt64 63)).toInt64) pc ls st w = some (.inl c')) (k : ri_G D cI cJ cS z b p l e R s m args below meth c Q y n0 s0 c') : ri_G D cI cJ cS z b p l e R s m args below meth c Q y n0 s0 (pc, ls, st, w) := by
  obtain ⟨hx, hb, hr, hml, hown, hts, hlocks, hini, hK, hX, hbz, hfr, hlo⟩ := C
  unfold ri_xsh at h
  split at h
  · cases h
    intro H locs lm h1 h2 h3 h4
    exact lv_lushr hx hb hd rfl (k H locs lm h1 h2 h3 h4)
  · cases h
theorem ri_s_l2i (C : ri_At D cI cJ cS z b sc R p s m args meth c y)  (hd : decode (ri_bc y) pc = .ok (.l2i, 1)) (h : ri_xl2i pc ls st w = some (.inl c')) (k : ri_G D cI cJ cS z b p l e R s m args below meth c Q y n0 s0 c') : ri_G D cI cJ cS z b p l e R s m args below meth c Q y n0 s0 (pc, ls, st, w) := by
  obtain ⟨hx, hb, hr, hml, hown, hts, hlocks, hini, hK, hX, hbz, hfr, hlo⟩ := C
  unfold ri_xl2i at h
  split at h
  · cases h
    intro H locs lm h1 h2 h3 h4
    exact lv_l2i hx hb hd rfl (k H locs lm h1 h2 h3 h4)
  · cases h
theorem ri_s_lcmp (C : ri_At D cI cJ cS z b sc R p s m args meth c y)  (hd : decode (ri_bc y) pc = .ok (.lcmp, 1)) (h : ri_xcm pc ls st w = some (.inl c')) (k : ri_G D cI cJ cS z b p l e R s m args below meth c Q y n0 s0 c') : ri_G D cI cJ cS z b p l e R s m args below meth c Q y n0 s0 (pc, ls, st, w) := by
  obtain ⟨hx, hb, hr, hml, hown, hts, hlocks, hini, hK, hX, hbz, hfr, hlo⟩ := C
  unfold ri_xcm at h
  split at h
  · cases h
    intro H locs lm h1 h2 h3 h4
    exact W.lcmp hx hb hd (k H locs lm h1 h2 h3 h4)
  · cases h
theorem ri_s_i2l (C : ri_At D cI cJ cS z b sc R p s m args meth c y)  (hd : decode (ri_bc y) pc = .ok (.i2l, 1)) (h : ri_xi2l pc ls st w = some (.inl c')) (k : ri_G D cI cJ cS z b p l e R s m args below meth c Q y n0 s0 c') : ri_G D cI cJ cS z b p l e R s m args below meth c Q y n0 s0 (pc, ls, st, w) := by
  obtain ⟨hx, hb, hr, hml, hown, hts, hlocks, hini, hK, hX, hbz, hfr, hlo⟩ := C
  unfold ri_xi2l at h
  split at h
  · cases h
    intro H locs lm h1 h2 h3 h4
    exact lv_i2l hx hb hd rfl (k H locs lm h1 h2 h3 h4)
  · cases h
theorem ri_s_pop (C : ri_At D cI cJ cS z b sc R p s m args meth c y)  (hd : decode (ri_bc y) pc = .ok (.pop, 1)) (h : ri_xpop pc ls st w = some (.inl c')) (k : ri_G D cI cJ cS z b p l e R s m args below meth c Q y n0 s0 c') : ri_G D cI cJ cS z b p l e R s m args below meth c Q y n0 s0 (pc, ls, st, w) := by
  obtain ⟨hx, hb, hr, hml, hown, hts, hlocks, hini, hK, hX, hbz, hfr, hlo⟩ := C
  unfold ri_xpop at h
  split at h
  · cases h
    intro H locs lm h1 h2 h3 h4
    exact lv_pop hx hb hd rfl (k H locs lm h1 h2 h3 h4)
  · cases h
theorem ri_s_i2c (C : ri_At D cI cJ cS z b sc R p s m args meth c y)  (hd : decode (ri_bc y) pc = .ok (.i2c, 1)) (h : ri_xi2c pc ls st w = some (.inl c')) (k : ri_G D cI cJ cS z b p l e R s m args below meth c Q y n0 s0 c') : ri_G D cI cJ cS z b p l e R s m args below meth c Q y n0 s0 (pc, ls, st, w) := by
  obtain ⟨hx, hb, hr, hml, hown, hts, hlocks, hini, hK, hX, hbz, hfr, hlo⟩ := C
  unfold ri_xi2c at h
  split at h
  · cases h
    intro H locs lm h1 h2 h3 h4
    exact lv_i2c hx hb hd rfl (k H locs lm h1 h2 h3 h4)
  · cases h
theorem ri_jmp_eq {off : Int} (h : ri_jmp y pc off ls st w = some (.inl c')) : 0 ≤ (pc : Int) + off ∧ c' = (((pc : Int) + off).toNat, (if off < 0 then ri_f (ri_tn y ((pc : Int) + off).toNat) ls else ls), st, w) := by
  unfold ri_jmp at h
  split at h
  · next h0 => cases h; exact ⟨h0, rfl⟩
  · cases h
theorem ri_jmp_go {off : Int} (h : ri_jmp y pc off ls st w = some (.inl c')) (k : ri_G D cI cJ cS z b p l e R s m args below meth c Q y n0 s0 c') : ri_G D cI cJ cS z b p l e R s m args below meth c Q y n0 s0 (((pc : Int) + off).toNat, ls, st, w) := by
  obtain ⟨-, rfl⟩ := ri_jmp_eq h
  intro H locs lm h1 h2 h3 h4
  refine k H locs lm h1 h2 h3 ?_
  show lv_has lm (ri_ml y) (ri_cl z b (if off < 0 then ri_f (ri_tn y ((pc : Int) + off).toNat) ls else ls))
  split
  · exact ri_f_has h4
  · exact h4
theorem ri_s_goto (C : ri_At D cI cJ cS z b sc R p s m args meth c y) {off : Int} (hd : decode (ri_bc y) pc = .ok (.goto off, 3)) (h : ri_jmp y pc off ls st w = some (.inl c')) (k : ri_G D cI cJ cS z b p l e R s m args below meth c Q y n0 s0 c') : ri_G D cI cJ cS z b p l e R s m args below meth c Q y n0 s0 (pc, ls, st, w) := by
  obtain ⟨hx, hb, hr, hml, hown, hts, hlocks, hini, hK, hX, hbz, hfr, hlo⟩ := C
  have h0 := (ri_jmp_eq h).1
  intro H locs lm h1 h2 h3 h4
  exact lv_goto (tgt := ((pc : Int) + off).toNat) hx hb hd (by omega) (ri_jmp_go h k H locs lm h1 h2 h3 h4)
theorem ri_s_if_eq (C : ri_At D cI cJ cS z b sc R p s m args meth c y) {off : Int} (hd : decode (ri_bc y) pc = .ok (.ifCond .eq off, 3)) (h : ri_xif y pc .eq off ls st w = some (.inl c')) (k : ri_G D cI cJ cS z b p l e R s m args below meth c Q y n0 s0 c') : ri_G D cI cJ cS z b p l e R s m args below meth c Q y n0 s0 (pc, ls, st, w) := by
  obtain ⟨hx, hb, hr, hml, hown, hts, hlocks, hini, hK, hX, hbz, hfr, hlo⟩ := C
  unfold ri_xif at h
  split at h
  · next x r =>
    split at h
    · next h0 =>
      intro H locs lm h1 h2 h3 h4
      refine lv_if_eq (tgt := ((pc : Int) + off).toNat) hx hb hd (by omega) (fun q => ?_) (fun q => ?_)
      · rw [if_pos (by simp only [ri_cd]; exact decide_eq_true q)] at h
        exact ri_jmp_go h k H locs lm h1 h2 h3 h4
      · rw [if_neg (by simp only [ri_cd]; simpa using q)] at h
        cases h
        exact k H locs lm h1 h2 h3 h4
    · cases h
  · cases h
theorem ri_s_ic_eq (C : ri_At D cI cJ cS z b sc R p s m args meth c y) {off : Int} (hd : decode (ri_bc y) pc = .ok (.if_icmp .eq off, 3)) (h : ri_xic y pc .eq off ls st w = some (.inl c')) (k : ri_G D cI cJ cS z b p l e R s m args below meth c Q y n0 s0 c') : ri_G D cI cJ cS z b p l e R s m args below meth c Q y n0 s0 (pc, ls, st, w) := by
  obtain ⟨hx, hb, hr, hml, hown, hts, hlocks, hini, hK, hX, hbz, hfr, hlo⟩ := C
  unfold ri_xic at h
  split at h
  · next b' a r =>
    split at h
    · next h0 =>
      intro H locs lm h1 h2 h3 h4
      refine lv_icmp_eq (tgt := ((pc : Int) + off).toNat) hx hb hd (by omega) (fun q => ?_) (fun q => ?_)
      · rw [if_pos (by simp only [ri_cd]; exact decide_eq_true q)] at h
        exact ri_jmp_go h k H locs lm h1 h2 h3 h4
      · rw [if_neg (by simp only [ri_cd]; simpa using q)] at h
        cases h
        exact k H locs lm h1 h2 h3 h4
    · cases h
  · cases h
theorem ri_s_if_ne (C : ri_At D cI cJ cS z b sc R p s m args meth c y) {off : Int} (hd : decode (ri_bc y) pc = .ok (.ifCond .ne off, 3)) (h : ri_xif y pc .ne off ls st w = some (.inl c')) (k : ri_G D cI cJ cS z b p l e R s m args below meth c Q y n0 s0 c') : ri_G D cI cJ cS z b p l e R s m args below meth c Q y n0 s0 (pc, ls, st, w) := by
  obtain ⟨hx, hb, hr, hml, hown, hts, hlocks, hini, hK, hX, hbz, hfr, hlo⟩ := C
  unfold ri_xif at h
  split at h
  · next x r =>
    split at h
    · next h0 =>
      intro H locs lm h1 h2 h3 h4
      refine lv_if_ne (tgt := ((pc : Int) + off).toNat) hx hb hd (by omega) (fun q => ?_) (fun q => ?_)
      · rw [if_pos (by simp only [ri_cd]; exact decide_eq_true q)] at h
        exact ri_jmp_go h k H locs lm h1 h2 h3 h4
      · rw [if_neg (by simp only [ri_cd]; simpa using q)] at h
        cases h
        exact k H locs lm h1 h2 h3 h4
    · cases h
  · cases h
theorem ri_s_ic_ne (C : ri_At D cI cJ cS z b sc R p s m args meth c y) {off : Int} (hd : decode (ri_bc y) pc = .ok (.if_icmp .ne off, 3)) (h : ri_xic y pc .ne off ls st w = some (.inl c')) (k : ri_G D cI cJ cS z b p l e R s m args below meth c Q y n0 s0 c') : ri_G D cI cJ cS z b p l e R s m args below meth c Q y n0 s0 (pc, ls, st, w) := by
  obtain ⟨hx, hb, hr, hml, hown, hts, hlocks, hini, hK, hX, hbz, hfr, hlo⟩ := C
  unfold ri_xic at h
  split at h
  · next b' a r =>
    split at h
    · next h0 =>
      intro H locs lm h1 h2 h3 h4
      refine lv_icmp_ne (tgt := ((pc : Int) + off).toNat) hx hb hd (by omega) (fun q => ?_) (fun q => ?_)
      · rw [if_pos (by simp only [ri_cd]; exact decide_eq_true q)] at h
        exact ri_jmp_go h k H locs lm h1 h2 h3 h4
      · rw [if_neg (by simp only [ri_cd]; simpa using q)] at h
        cases h
        exact k H locs lm h1 h2 h3 h4
    · cases h
  · cases h
theorem ri_s_if_lt (C : ri_At D cI cJ cS z b sc R p s m args meth c y) {off : Int} (hd : decode (ri_bc y) pc = .ok (.ifCond .lt off, 3)) (h : ri_xif y pc .lt off ls st w = some (.inl c')) (k : ri_G D cI cJ cS z b p l e R s m args below meth c Q y n0 s0 c') : ri_G D cI cJ cS z b p l e R s m args below meth c Q y n0 s0 (pc, ls, st, w) := by
  obtain ⟨hx, hb, hr, hml, hown, hts, hlocks, hini, hK, hX, hbz, hfr, hlo⟩ := C
  unfold ri_xif at h
  split at h
  · next x r =>
    split at h
    · next h0 =>
      intro H locs lm h1 h2 h3 h4
      refine lv_if_lt (tgt := ((pc : Int) + off).toNat) hx hb hd (by omega) (fun q => ?_) (fun q => ?_)
      · rw [if_pos (by simp only [ri_cd]; exact decide_eq_true q)] at h
        exact ri_jmp_go h k H locs lm h1 h2 h3 h4
      · rw [if_neg (by simp only [ri_cd]; simpa using q)] at h
        cases h
        exact k H locs lm h1 h2 h3 h4
    · cases h
  · cases h
theorem ri_s_ic_lt (C : ri_At D cI cJ cS z b sc R p s m args meth c y) {off : Int} (hd : decode (ri_bc y) pc = .ok (.if_icmp .lt off, 3)) (h : ri_xic y pc .lt off ls st w = some (.inl c')) (k : ri_G D cI cJ cS z b p l e R s m args below meth c Q y n0 s0 c') : ri_G D cI cJ cS z b p l e R s m args below meth c Q y n0 s0 (pc, ls, st, w) := by
  obtain ⟨hx, hb, hr, hml, hown, hts, hlocks, hini, hK, hX, hbz, hfr, hlo⟩ := C
  unfold ri_xic at h
  split at h
  · next b' a r =>
    split at h
    · next h0 =>
      intro H locs lm h1 h2 h3 h4
      refine lv_icmp_lt (tgt := ((pc : Int) + off).toNat) hx hb hd (by omega) (fun q => ?_) (fun q => ?_)
      · rw [if_pos (by simp only [ri_cd]; exact decide_eq_true q)] at h
        exact ri_jmp_go h k H locs lm h1 h2 h3 h4
      · rw [if_neg (by simp only [ri_cd]; simpa using q)] at h
        cases h
        exact k H locs lm h1 h2 h3 h4
    · cases h
  · cases h
theorem ri_s_if_ge (C : ri_At D cI cJ cS z b sc R p s m args meth c y) {off : Int} (hd : decode (ri_bc y) pc = .ok (.ifCond .ge off, 3)) (h : ri_xif y pc .ge off ls st w = some (.inl c')) (k : ri_G D cI cJ cS z b p l e R s m args below meth c Q y n0 s0 c') : ri_G D cI cJ cS z b p l e R s m args below meth c Q y n0 s0 (pc, ls, st, w) := by
  obtain ⟨hx, hb, hr, hml, hown, hts, hlocks, hini, hK, hX, hbz, hfr, hlo⟩ := C
  unfold ri_xif at h
  split at h
  · next x r =>
    split at h
    · next h0 =>
      intro H locs lm h1 h2 h3 h4
      refine lv_if_ge (tgt := ((pc : Int) + off).toNat) hx hb hd (by omega) (fun q => ?_) (fun q => ?_)
      · rw [if_pos (by simp only [ri_cd]; exact decide_eq_true q)] at h
        exact ri_jmp_go h k H locs lm h1 h2 h3 h4
      · rw [if_neg (by simp only [ri_cd]; simpa using q)] at h
        cases h
        exact k H locs lm h1 h2 h3 h4
    · cases h
  · cases h
theorem ri_s_ic_ge (C : ri_At D cI cJ cS z b sc R p s m args meth c y) {off : Int} (hd : decode (ri_bc y) pc = .ok (.if_icmp .ge off, 3)) (h : ri_xic y pc .ge off ls st w = some (.inl c')) (k : ri_G D cI cJ cS z b p l e R s m args below meth c Q y n0 s0 c') : ri_G D cI cJ cS z b p l e R s m args below meth c Q y n0 s0 (pc, ls, st, w) := by
  obtain ⟨hx, hb, hr, hml, hown, hts, hlocks, hini, hK, hX, hbz, hfr, hlo⟩ := C
  unfold ri_xic at h
  split at h
  · next b' a r =>
    split at h
    · next h0 =>
      intro H locs lm h1 h2 h3 h4
      refine lv_icmp_ge (tgt := ((pc : Int) + off).toNat) hx hb hd (by omega) (fun q => ?_) (fun q => ?_)
      · rw [if_pos (by simp only [ri_cd]; exact decide_eq_true q)] at h
        exact ri_jmp_go h k H locs lm h1 h2 h3 h4
      · rw [if_neg (by simp only [ri_cd]; simpa using q)] at h
        cases h
        exact k H locs lm h1 h2 h3 h4
    · cases h
  · cases h
theorem ri_s_if_gt (C : ri_At D cI cJ cS z b sc R p s m args meth c y) {off : Int} (hd : decode (ri_bc y) pc = .ok (.ifCond .gt off, 3)) (h : ri_xif y pc .gt off ls st w = some (.inl c')) (k : ri_G D cI cJ cS z b p l e R s m args below meth c Q y n0 s0 c') : ri_G D cI cJ cS z b p l e R s m args below meth c Q y n0 s0 (pc, ls, st, w) := by
  obtain ⟨hx, hb, hr, hml, hown, hts, hlocks, hini, hK, hX, hbz, hfr, hlo⟩ := C
  unfold ri_xif at h
  split at h
  · next x r =>
    split at h
    · next h0 =>
      intro H locs lm h1 h2 h3 h4
      refine lv_if_gt (tgt := ((pc : Int) + off).toNat) hx hb hd (by omega) (fun q => ?_) (fun q => ?_)
      · rw [if_pos (by simp only [ri_cd]; exact decide_eq_true q)] at h
        exact ri_jmp_go h k H locs lm h1 h2 h3 h4
      · rw [if_neg (by simp only [ri_cd]; simpa using q)] at h
        cases h
        exact k H locs lm h1 h2 h3 h4
    · cases h
  · cases h
theorem ri_s_ic_gt (C : ri_At D cI cJ cS z b sc R p s m args meth c y) {off : Int} (hd : decode (ri_bc y) pc = .ok (.if_icmp .gt off, 3)) (h : ri_xic y pc .gt off ls st w = some (.inl c')) (k : ri_G D cI cJ cS z b p l e R s m args below meth c Q y n0 s0 c') : ri_G D cI cJ cS z b p l e R s m args below meth c Q y n0 s0 (pc, ls, st, w) := by
  obtain ⟨hx, hb, hr, hml, hown, hts, hlocks, hini, hK, hX, hbz, hfr, hlo⟩ := C
  unfold ri_xic at h
  split at h
  · next b' a r =>
    split at h
    · next h0 =>
      intro H locs lm h1 h2 h3 h4
      refine lv_icmp_gt (tgt := ((pc : Int) + off).toNat) hx hb hd (by omega) (fun q => ?_) (fun q => ?_)
      · rw [if_pos (by simp only [ri_cd]; exact decide_eq_true q)] at h
        exact ri_jmp_go h k H locs lm h1 h2 h3 h4
      · rw [if_neg (by simp only [ri_cd]; simpa using q)] at h
        cases h
        exact k H locs lm h1 h2 h3 h4
    · cases h
  · cases h
theorem ri_s_if_le (C : ri_At D cI cJ cS z b sc R p s m args meth c y) {off : Int} (hd : decode (ri_bc y) pc = .ok (.ifCond .le off, 3)) (h : ri_xif y pc .le off ls st w = some (.inl c')) (k : ri_G D cI cJ cS z b p l e R s m args below meth c Q y n0 s0 c') : ri_G D cI cJ cS z b p l e R s m args below meth c Q y n0 s0 (pc, ls, st, w) := by
  obtain ⟨hx, hb, hr, hml, hown, hts, hlocks, hini, hK, hX, hbz, hfr, hlo⟩ := C
  unfold ri_xif at h
  split at h
  · next x r =>
    split at h
    · next h0 =>
      intro H locs lm h1 h2 h3 h4
      refine lv_if_le (tgt := ((pc : Int) + off).toNat) hx hb hd (by omega) (fun q => ?_) (fun q => ?_)
      · rw [if_pos (by simp only [ri_cd]; exact decide_eq_true q)] at h
        exact ri_jmp_go h k H locs lm h1 h2 h3 h4
      · rw [if_neg (by simp only [ri_cd]; simpa using q)] at h
        cases h
        exact k H locs lm h1 h2 h3 h4
    · cases h
  · cases h
theorem ri_s_ic_le (C : ri_At D cI cJ cS z b sc R p s m args meth c y) {off : Int} (hd : decode (ri_bc y) pc = .ok (.if_icmp .le off, 3)) (h : ri_xic y pc .le off ls st w = some (.inl c')) (k : ri_G D cI cJ cS z b p l e R s m args below meth c Q y n0 s0 c') : ri_G D cI cJ cS z b p l e R s m args below meth c Q y n0 s0 (pc, ls, st, w) := by
  obtain ⟨hx, hb, hr, hml, hown, hts, hlocks, hini, hK, hX, hbz, hfr, hlo⟩ := C
  unfold ri_xic at h
  split at h
  · next b' a r =>
    split at h
    · next h0 =>
      intro H locs lm h1 h2 h3 h4
      refine lv_icmp_le (tgt := ((pc : Int) + off).toNat) hx hb hd (by omega) (fun q => ?_) (fun q => ?_)
      · rw [if_pos (by simp only [ri_cd]; exact decide_eq_true q)] at h
        exact ri_jmp_go h k H locs lm h1 h2 h3 h4
      · rw [if_neg (by simp only [ri_cd]; simpa using q)] at h
        cases h
        exact k H locs lm h1 h2 h3 h4
    · cases h
  · cases h
theorem ri_s_ifnonnull (C : ri_At D cI cJ cS z b sc R p s m args meth c y) {off : Int} (hd : decode (ri_bc y) pc = .ok (.ifnonnull off, 3)) (h : ri_xnn y pc off ls st w = some (.inl c')) (k : ri_G D cI cJ cS z b p l e R s m args below meth c Q y n0 s0 c') : ri_G D cI cJ cS z b p l e R s m args below meth c Q y n0 s0 (pc, ls, st, w) := by
  obtain ⟨hx, hb, hr, hml, hown, hts, hlocks, hini, hK, hX, hbz, hfr, hlo⟩ := C
  unfold ri_xnn at h
  split at h
  · have h0 := (ri_jmp_eq h).1
    intro H locs lm h1 h2 h3 h4
    exact lv_ifnonnull (tgt := ((pc : Int) + off).toNat) hx hb hd (by omega) (ri_jmp_go h k H locs lm h1 h2 h3 h4)
  · cases h
theorem ri_s_ifnull (C : ri_At D cI cJ cS z b sc R p s m args meth c y) {off : Int} (hd : decode (ri_bc y) pc = .ok (.ifnull off, 3)) (h : ri_xnu pc ls st w = some (.inl c')) (k : ri_G D cI cJ cS z b p l e R s m args below meth c Q y n0 s0 c') : ri_G D cI cJ cS z b p l e R s m args below meth c Q y n0 s0 (pc, ls, st, w) := by
  obtain ⟨hx, hb, hr, hml, hown, hts, hlocks, hini, hK, hX, hbz, hfr, hlo⟩ := C
  unfold ri_xnu at h
  split at h
  · cases h
    intro H locs lm h1 h2 h3 h4
    exact lv_ifnull hx hb hd (k H locs lm h1 h2 h3 h4)
  · cases h
theorem ri_s_tableswitch (C : ri_At D cI cJ cS z b sc R p s m args meth c y) {d lo hi : Int} {os : Array Int} {len : Nat} (hd : decode (ri_bc y) pc = .ok (.tableswitch d lo hi os, len)) (h : ri_xts y pc d lo hi os ls st w = some (.inl c')) (k : ri_G D cI cJ cS z b p l e R s m args below meth c Q y n0 s0 c') : ri_G D cI cJ cS z b p l e R s m args below meth c Q y n0 s0 (pc, ls, st, w) := by
  obtain ⟨hx, hb, hr, hml, hown, hts, hlocks, hini, hK, hX, hbz, hfr, hlo⟩ := C
  unfold ri_xts at h
  split at h
  · next x r =>
    split at h
    · next hq =>
      have h0 := (ri_jmp_eq h).1
      intro H locs lm h1 h2 h3 h4
      exact lv_tableOut (tgt := ((pc : Int) + d).toNat) hx hb hd hq (by omega) (ri_jmp_go h k H locs lm h1 h2 h3 h4)
    · next hq =>
      split at h
      · next off ho =>
        have h0 := (ri_jmp_eq h).1
        intro H locs lm h1 h2 h3 h4
        exact lv_tableIn (tgt := ((pc : Int) + off).toNat) hx hb hd (fun q => hq (Or.inl q)) (fun q => hq (Or.inr q)) ho (by omega) (ri_jmp_go h k H locs lm h1 h2 h3 h4)
      · cases h
  · cases h
theorem ri_s_lookupswitch (C : ri_At D cI cJ cS z b sc R p s m args meth c y) {d : Int} {ps : Array (Int × Int)} {len : Nat} (hd : decode (ri_bc y) pc = .ok (.lookupswitch d ps, len)) (h : ri_xlo y pc d ps ls st w = some (.inl c')) (k : ri_G D cI cJ cS z b p l e R s m args below meth c Q y n0 s0 c') : ri_G D cI cJ cS z b p l e R s m args below meth c Q y n0 s0 (pc, ls, st, w) := by
  obtain ⟨hx, hb, hr, hml, hown, hts, hlocks, hini, hK, hX, hbz, hfr, hlo⟩ := C
  unfold ri_xlo at h
  split at h
  · next x r =>
    split at h
    · next hq =>
      have h0 := (ri_jmp_eq h).1
      intro H locs lm h1 h2 h3 h4
      exact lv_lookup (tgt := ((pc : Int) + (Op.lookupswitch.offset ps.toList d x.toInt)).toNat) hx hb hd hq rfl (by omega) (ri_jmp_go h k H locs lm h1 h2 h3 h4)
    · cases h
  · cases h
end
