section
variable {sc : Nat × (Nat → Int32)} {g : SG} {fs n j : Nat} {Q : Option Value → ri_W → Prop}
theorem ii01 {v a b : Int32} : ii v a b = 1 ∨ ii v a b = 0 := by
  unfold ii
  repeat' (first | exact .inl rfl | exact .inr rfl | split)
theorem w_tf (hj : j < 7) {t k : Nat} {v : Int32} (ht : t < 8) (hk : k < 2) : ev sc 2 [.ref (bs j + 1), .int (nI t), .int (nI k), .int v] (Wd g) Q = Q none (Wd (stS g j (sN (g.1 j) 0 (upF ((g.1 j).2.1 0) (t * 2 + k) v)))) := by
  have := s_nset (sc := sc) (w := Wd g) (Q := Q) (wd := 2) (i := t) (k := k) (v := v) (no0 hj) (ni0 hj) hk (by omega) (by decide) (by decide)
  rw [ns0 hj] at this
  exact this
theorem w_tf0 (hj : j < 7) {t : Nat} {v : Int32} (ht : t < 8) : ev sc 2 [.ref (bs j + 1), .int (nI t), .int 0, .int v] (Wd g) Q = Q none (Wd (stS g j (sN (g.1 j) 0 (upF ((g.1 j).2.1 0) (t * 2 + 0) v)))) := w_tf (k := 0) hj ht (by decide)
theorem w_tf1 (hj : j < 7) {t : Nat} {v : Int32} (ht : t < 8) : ev sc 2 [.ref (bs j + 1), .int (nI t), .int 1, .int v] (Wd g) Q = Q none (Wd (stS g j (sN (g.1 j) 0 (upF ((g.1 j).2.1 0) (t * 2 + 1) v)))) := w_tf (k := 1) hj ht (by decide)
theorem w_re (hj : j < 7) {t : Nat} {v : Int32} (ht : t < 6) : ev sc 2 [.ref (bs j + 3), .int (nI t), .int 0, .int v] (Wd g) Q = Q none (Wd (stS g j (sN (g.1 j) 1 (upF ((g.1 j).2.1 1) (t * 1 + 0) v)))) := by
  have := s_nset (sc := sc) (w := Wd g) (Q := Q) (wd := 1) (i := t) (k := 0) (v := v) (no1 hj) (ni1 hj) (by decide) (by omega) (by decide) (by decide)
  rw [ns1 hj] at this
  exact this
theorem w_cf (hj : j < 7) {t k : Nat} {v : Int32} (ht : t < 20) (hk : k < 6) : ev sc 2 [.ref (bs j + 5), .int (nI t), .int (nI k), .int v] (Wd g) Q = Q none (Wd (stS g j (sN (g.1 j) 2 (upF ((g.1 j).2.1 2) (t * 6 + k) v)))) := by
  have := s_nset (sc := sc) (w := Wd g) (Q := Q) (wd := 6) (i := t) (k := k) (v := v) (no2 hj) (ni2 hj) hk (by omega) (by decide) (by decide)
  rw [ns2 hj] at this
  exact this
theorem sN_tw {s : SV} {i : Nat} {f h : Nat → Int32} : sN (sN s i f) i h = sN s i h := by
  unfold sN
  show (s.1, upF (upF s.2.1 i f) i h, s.2.2) = _
  rw [upF_tw]
end
