/-! THE TWO AGREE: text -/
section
variable {sc : Nat × (Nat → Int32)} {g : SG} {fs n j : Nat} {Q : Option Value → ri_W → Prop}
theorem gX_s {i : Nat} {v : Int32} (e : g.2.2.1.1 i = v) : gX g i v = g := by
  unfold gX
  have : upF g.2.2.1.1 i v = g.2.2.1.1 := by
    funext q
    unfold upF
    split
    · rename_i h
      rw [h, e]
    · rfl
  rw [this]
theorem c_append {n : Nat} {x : Int32} (hn : n < 60) (e : g.2.2.1.1 0 = nI n) : ev sc 54 [.ref 149, .int x] (Wd g) Q = Q none (Wd (gX (gXN g 1 (upF (g.2.2.1.2 1) n x)) 0 (nI (n + 1)))) := by
  have hs : ∀ Q, ev sc 2 [.ref 152, .int (nI n), .int 0, .int x] (Wd g) Q = Q none (Wd (gXN g 1 (upF (g.2.2.1.2 1) n x))) := fun Q => by
    have := s_nset (sc := sc) (w := Wd g) (Q := Q) (wd := 1) (i := n) (k := 0) (v := x) (xno1 (g := g)) xni1 (by decide) (by omega) (by decide) (by decide)
    rw [xns1, show n * 1 + 0 = n by omega] at this
    exact this
  have e2 : (gXN g 1 (upF (g.2.2.1.2 1) n x)).2.2.1.1 0 = nI n := e
  simp only [↓en54, ↓u54_0, ↓u54_1, ↓u54_4, ↓u54_5, ↓u54_8, ↓u54_9, ↓u54_10, ↓u54_13, ↓u54_14, ↓u54_15, ↓u54_18, ↓u54_19, ↓u54_20, ↓u54_23, ↓xf0, ↓xf3, e, ↓xn_o1, ↓hs, ↓c_v_none, e2, nI_1, ↓xp0]
theorem o_type (h : R g) {x : Int32} : both sc 74 152 [.int x] g := by
  have hR := h
  obtain ⟨a1, a2, a3, a4, a5, ⟨⟨len, l1, l2, l3⟩, l4⟩⟩ := h
  by_cases e : len = 60
  · have e1 : nI len = 60 := by rw [e]; rfl
    refine both_q hR (v := -3) (fun Q => ?_) (fun Q => ?_)
    · simp only [↓en74, ↓u74_0, ↓u74_1, ↓u74_4, ↓u74_7, ↓u74_9, ↓u74_15, ↓u74_12, ↓u74_16, ↓u74_14, ↓u74_19, ↓u74_20, ↓u74_23, ↓u74_24, ↓u74_27, ↓u74_30, ↓mf7, ↓xf0, l2, e1, show ((60 : Int32) < 60) = False by decide, show ((60 : Int32) ≤ 60) = True by decide, if_true, if_false]
    · simp only [↓en152, ↓u152_0, ↓u152_1, ↓u152_4, ↓u152_6, ↓u152_12, ↓u152_9, ↓u152_13, ↓u152_11, ↓u152_16, ↓u152_17, ↓u152_20, ↓u152_21, ↓u152_22, ↓u152_23, ↓u152_24, ↓u152_27, ↓u152_28, ↓u152_29, ↓u152_32, ↓u152_33, ↓u152_36, ↓df5, l3, e1, show ((60 : Int32) = 60) = True by decide, if_true]
  · have hl : len < 60 := by omega
    have c1 : nI len < 60 := nI_lt (b := 60) hl (by decide)
    have c2 : ¬ nI len = 60 := fun e2 => e ((nI_eq (b := 60) (by omega) (by decide)).mp e2)
    refine ⟨nI (len + 1), gX (gXN g 1 (upF (g.2.2.1.2 1) len x)) 0 (nI (len + 1)), gD (gDN (gX (gXN g 1 (upF (g.2.2.1.2 1) len x)) 0 (nI (len + 1))) 2 (upF (g.2.2.2.2 2) len x)) 2 (nI (len + 1)), fun Q => ?_, fun Q => ?_, ?_⟩
    · have g1 : (gX (gXN g 1 (upF (g.2.2.1.2 1) len x)) 0 (nI (len + 1))).2.2.1.1 0 = nI (len + 1) := rfl
      simp only [↓en74, ↓u74_0, ↓u74_1, ↓u74_4, ↓u74_7, ↓u74_9, ↓u74_15, ↓u74_12, ↓u74_16, ↓u74_14, ↓u74_19, ↓u74_20, ↓u74_23, ↓u74_24, ↓u74_27, ↓u74_30, ↓mf7, ↓xf0, l2, c1, if_true, ↓x_o, ↓c_append hl l2, ↓c_v_none, g1]
    · have g1 : (gX (gXN g 1 (upF (g.2.2.1.2 1) len x)) 0 (nI (len + 1))).2.2.2.1 2 = nI len := l3
      have g2 : (gX (gXN g 1 (upF (g.2.2.1.2 1) len x)) 0 (nI (len + 1))).2.2.2.2 2 = g.2.2.2.2 2 := rfl
      have g3 : (gDN (gX (gXN g 1 (upF (g.2.2.1.2 1) len x)) 0 (nI (len + 1))) 2 (upF (g.2.2.2.2 2) len x)).2.2.2.1 2 = nI len := l3
      simp only [↓en152, ↓u152_0, ↓u152_1, ↓u152_4, ↓u152_6, ↓u152_12, ↓u152_9, ↓u152_13, ↓u152_11, ↓u152_16, ↓u152_17, ↓u152_20, ↓u152_21, ↓u152_22, ↓u152_23, ↓u152_24, ↓u152_27, ↓u152_28, ↓u152_29, ↓u152_32, ↓u152_33, ↓u152_36, ↓df4, ↓df5, ↓dI2, g1, g2, c2, if_true, if_false, nAt hl (by decide), nI_clamp (show len < 2 ^ 31 by omega), upF_eq, ds2, g3, nI_1, dp5, gD_at]
    · refine ⟨a1, a2, a3, a4, a5, ⟨⟨len + 1, by omega, rfl, rfl⟩, ?_⟩⟩
      show upF g.2.2.1.2 1 (upF (g.2.2.1.2 1) len x) 1 = upF g.2.2.2.2 2 (upF (g.2.2.2.2 2) len x) 2
      rw [upF_at, upF_at, l4]
theorem o_clearText (h : R g) : both sc 75 153 [] g := by
  obtain ⟨a1, a2, a3, a4, a5, ⟨⟨len, l1, l2, l3⟩, l4⟩⟩ := h
  refine ⟨nI len, gX g 0 0, gD (gX g 0 0) 2 0, fun Q => ?_, fun Q => ?_, ?_⟩
  · simp only [↓en75, ↓u75_0, ↓u75_1, ↓u75_4, ↓u75_7, ↓u75_8, ↓u75_9, ↓u75_12, ↓u75_13, ↓u75_16, ↓u75_17, ↓mf7, ↓xf0, l2, ↓xp0]
  · have g1 : (gX g 0 0).2.2.2.1 2 = nI len := l3
    simp only [↓en153, ↓u153_0, ↓u153_1, ↓u153_4, ↓u153_5, ↓u153_6, ↓u153_7, ↓u153_10, ↓u153_11, ↓df5, g1, ↓dp5]
  · exact ⟨a1, a2, a3, a4, a5, ⟨⟨0, by omega, rfl, rfl⟩, l4⟩⟩
end
