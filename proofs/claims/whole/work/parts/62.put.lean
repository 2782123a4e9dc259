/-! TEXTS: the class keeps what it reads -/
section
variable {sc : Nat × (Nat → Int32)} {g : SG} {n p f : Nat} {Q : Option Value → ri_W → Prop}
theorem gXN_tw {i : Nat} {v w : Nat → Int32} : gXN (gXN g i v) i w = gXN g i w := by
  unfold gXN
  show (g.1, g.2.1, (g.2.2.1.1, upF (upF g.2.2.1.2 i v) i w), g.2.2.2) = _
  rw [upF_tw]
theorem gXN_at {i : Nat} {v : Nat → Int32} : (gXN g i v).2.2.1.2 i = v := upF_at
theorem w_pl {k : Nat} {v : Int32} (hf : f < 10) (hk : k < 3) : ev sc 2 [.ref 150, .int (nI f), .int (nI k), .int v] (Wd g) Q = Q none (Wd (gXN g 0 (upF (g.2.2.1.2 0) (f * 3 + k) v))) := by
  have := s_nset (sc := sc) (w := Wd g) (Q := Q) (wd := 3) (i := f) (k := k) (v := v) (xno0 (g := g)) xni0 hk (by omega) (by decide) (by decide)
  rw [xns0] at this
  exact this
theorem w_pl0 {v : Int32} (hf : f < 10) : ev sc 2 [.ref 150, .int (nI f), .int 0, .int v] (Wd g) Q = Q none (Wd (gXN g 0 (upF (g.2.2.1.2 0) (f * 3 + 0) v))) := w_pl (k := 0) hf (by decide)
theorem w_pl1 {v : Int32} (hf : f < 10) : ev sc 2 [.ref 150, .int (nI f), .int 1, .int v] (Wd g) Q = Q none (Wd (gXN g 0 (upF (g.2.2.1.2 0) (f * 3 + 1) v))) := w_pl (k := 1) hf (by decide)
theorem w_pl2 {v : Int32} (hf : f < 10) : ev sc 2 [.ref 150, .int (nI f), .int 2, .int v] (Wd g) Q = Q none (Wd (gXN g 0 (upF (g.2.2.1.2 0) (f * 3 + 2) v))) := w_pl (k := 2) hf (by decide)
theorem r_pl {k : Nat} (hf : f < 10) (hk : k < 3) : ev sc 1 [.ref 150, .int (nI f), .int (nI k)] (Wd g) Q = Q (some (.int (g.2.2.1.2 0 (f * 3 + k)))) (Wd g) := by
  have := s_nget (sc := sc) (w := Wd g) (Q := Q) (wd := 3) (i := f) (k := k) (xno0 (g := g)) xni0 hk (by decide) (by decide) (by omega)
  rw [if_pos (by omega)] at this
  exact this
theorem c_put {a b d : Int32} (hf : f < 10) (e1 : g.2.2.1.1 1 = nI f) : ev sc 56 [.ref 149, .int a, .int b, .int d] (Wd g) Q = Q none (Wd (gX (gXN g 0 (upF (upF (upF (g.2.2.1.2 0) (f * 3 + 0) a) (f * 3 + 1) b) (f * 3 + 2) d)) 1 (nI (f + 1)))) := by
  have h1 : ∀ F : Nat → Int32, (gXN g 0 F).2.2.1.1 1 = nI f := fun F => e1
  simp only [↓en56, ↓u56_0, ↓u56_1, ↓u56_4, ↓u56_5, ↓u56_8, ↓u56_9, ↓u56_10, ↓u56_13, ↓u56_14, ↓u56_17, ↓u56_18, ↓u56_21, ↓u56_22, ↓u56_23, ↓u56_26, ↓u56_27, ↓u56_30, ↓u56_31, ↓u56_34, ↓u56_35, ↓u56_36, ↓u56_39, ↓u56_40, ↓u56_41, ↓u56_44, ↓u56_45, ↓u56_46, ↓u56_49, ↓xf1, ↓xf2, e1, ↓xn_o0, w_pl0 hf, w_pl1 hf, w_pl2 hf, h1, gXN_at, gXN_tw, ↓c_v_none, nI_1, xp1]
end
