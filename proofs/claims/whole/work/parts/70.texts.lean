/-! THE TWO AGREE: placings are read from a text -/
section
variable {g g' : SG}
theorem R_ev (h : R g) (e : eqv g g') : R g' := by
  obtain ⟨a1, a2, a3, ⟨fs, n, h1, h2, h3, h4, h5, h6⟩, ⟨b, b1, b2, b3⟩, ⟨⟨len, l1, l2, l3⟩, l4⟩⟩ := h
  obtain ⟨e1, e2, e3, e4, e5⟩ := e
  refine ⟨fun j hj => by rw [e1]; exact a1 j hj, by rw [e1]; exact a2, by rw [e4, e1]; exact a3, ⟨fs, n, h1, h2, by rw [e2]; exact h3, by rw [e2]; exact h4, (e5 0 (by decide)).trans h5, fun i hi => by rw [e1, e4]; exact h6 i hi⟩, ⟨b, by rw [e2]; exact b1, (e5 1 (by decide)).trans b2, fun hb => by rw [e1, e4]; exact b3 hb⟩, ⟨⟨len, l1, by rw [e3]; exact l2, (e5 2 (by decide)).trans l3⟩, by rw [e3, e4]; exact l4⟩⟩
theorem R_te (h : R g) (e : teq g g') : R g' := by
  obtain ⟨a1, a2, a3, ⟨fs, n, h1, h2, h3, h4, h5, h6⟩, ⟨b, b1, b2, b3⟩, ⟨⟨len, l1, l2, l3⟩, l4⟩⟩ := h
  obtain ⟨e1, e2, e3, e4, e5⟩ := e
  refine ⟨fun j hj => by rw [e1]; exact a1 j hj, by rw [e1]; exact a2, by rw [e3, e1]; exact a3, ⟨fs, n, h1, h2, by rw [e2]; exact h3, by rw [e2]; exact h4, by rw [e3]; exact h5, fun i hi => by rw [e1, e3]; exact h6 i hi⟩, ⟨b, by rw [e2]; exact b1, by rw [e3]; exact b2, fun hb => by rw [e1, e3]; exact b3 hb⟩, ⟨⟨len, l1, e4.trans l2, by rw [e3]; exact l3⟩, by rw [e3, e5]; exact l4⟩⟩
theorem Rh_te {fs n : Nat} (h : Rh g fs n) (e : teq g g') : Rh g' fs n := by
  obtain ⟨h1, h2, h3, h4, h5, h6⟩ := h
  obtain ⟨e1, e2, e3, e4, e5⟩ := e
  exact ⟨h1, h2, by rw [e2]; exact h3, by rw [e2]; exact h4, by rw [e3]; exact h5, fun i hi => by rw [e1, e3]; exact h6 i hi⟩
theorem eqv_fin {G G' : SG} (h : eqv G G') {A B : Nat → Int32} {v : Int32} : eqv (gDN (gD (gDN G 1 A) 0 v) 0 B) (gDN (gD (gDN G' 1 A) 0 v) 0 B) := by
  obtain ⟨h1, h2, h3, h4, h5⟩ := h
  refine ⟨h1, h2, h3, ?_, fun i hi => ?_⟩
  · show upF (upF G'.2.2.2.2 1 A) 0 B = upF (upF G.2.2.2.2 1 A) 0 B
    rw [h4]
  · show upF G'.2.2.2.1 0 v i = upF G.2.2.2.1 0 v i
    unfold upF
    split
    · rfl
    · exact h5 i hi
end
section
variable {sc : Nat × (Nat → Int32)} {g : SG}
theorem o_readPlacings (h : R g) : both sc 76 159 [] g := by
  have hI := h.2.1
  have hM := h.2.2.1
  obtain ⟨fs, n, hh⟩ := h.2.2.2.1
  obtain ⟨⟨len, l1, l2, l3⟩, l4⟩ := h.2.2.2.2.2
  obtain ⟨g1, t1, t2⟩ := c_parse (sc := sc) (g := g) l1 l2 rfl
  have hR1 := R_te h t1
  cases ep : prs (g.2.2.1.2 1) len 60 0 with
  | inr e =>
    rw [ep] at t2
    have he := prs_e 60 0 e ep (Nat.zero_le _)
    obtain ⟨g2, v1, v2⟩ := m_faultOf (sc := sc) (g := g1) (n := len) (x := g.2.2.1.2 1) l1 (by rw [t1.2.2.1]; exact l3) (by rw [t1.2.2.1]; exact l4.symm)
    rw [ep] at v2
    have k1 : ¬ nI e = -1 := fun e1 => nI_pos (show e < 2 ^ 31 by omega) (by rw [e1]; decide)
    have k2 : ¬ nI e = -5 := nI_n5 (by omega)
    refine ⟨-100 - nI e, g1, g2, fun Q => ?_, fun Q => ?_, R_ev hR1 v1⟩
    · simp only [↓en76, ↓u76_0, ↓u76_1, ↓u76_4, ↓u76_7, ↓u76_8, ↓u76_9, ↓u76_10, ↓u76_18, ↓u76_13, ↓u76_19, ↓u76_15, ↓u76_22, ↓u76_16, ↓u76_23, ↓u76_17, ↓u76_26, ↓u76_29, ↓u76_30, ↓u76_32, ↓u76_33, ↓u76_36, ↓u76_39, ↓u76_124, ↓u76_42, ↓u76_125, ↓u76_43, ↓u76_128, ↓u76_46, ↓u76_129, ↓u76_49, ↓u76_132, ↓u76_50, ↓u76_135, ↓u76_51, ↓u76_54, ↓u76_55, ↓u76_56, ↓u76_59, ↓u76_62, ↓u76_63, ↓u76_64, ↓u76_67, ↓u76_69, ↓u76_70, ↓u76_73, ↓u76_76, ↓u76_77, ↓u76_78, ↓u76_81, ↓u76_83, ↓u76_84, ↓u76_87, ↓u76_88, ↓u76_90, ↓u76_92, ↓u76_95, ↓u76_97, ↓u76_99, ↓u76_105, ↓u76_102, ↓u76_106, ↓u76_104, ↓u76_109, ↓u76_110, ↓u76_112, ↓u76_114, ↓u76_115, ↓u76_118, ↓u76_121, ↓mf7, ↓x_o, ↓t2, ↓c_v_some, k1, if_false]
    · simp only [↓en159, ↓u159_0, ↓u159_1, ↓u159_4, ↓u159_5, ↓u159_6, ↓u159_8, ↓u159_16, ↓u159_11, ↓u159_17, ↓u159_13, ↓u159_18, ↓u159_14, ↓u159_21, ↓u159_15, ↓u159_22, ↓u159_23, ↓u159_24, ↓u159_25, ↓u159_29, ↓u159_32, ↓u159_33, ↓u159_36, ↓u159_115, ↓u159_39, ↓u159_116, ↓u159_40, ↓u159_119, ↓u159_43, ↓u159_120, ↓u159_44, ↓u159_45, ↓u159_46, ↓u159_49, ↓u159_50, ↓u159_53, ↓u159_54, ↓u159_57, ↓u159_60, ↓u159_62, ↓u159_64, ↓u159_75, ↓u159_67, ↓u159_76, ↓u159_68, ↓u159_77, ↓u159_69, ↓u159_80, ↓u159_72, ↓u159_81, ↓u159_74, ↓u159_84, ↓u159_85, ↓u159_88, ↓u159_91, ↓u159_94, ↓u159_95, ↓u159_96, ↓u159_99, ↓u159_100, ↓u159_107, ↓u159_103, ↓u159_108, ↓u159_104, ↓u159_109, ↓u159_112, ↓d_o, ↓v2, ↓c_v_some, k2, if_false]
  | inl l =>
    rw [ep] at t2
    obtain ⟨u1, u2, u3, u4⟩ := t2
    have hb := prs_lt 60 0 l ep
    have hcp := fun Q => s_copyFrom (sc := sc) (Q := Q) (g := g1) (j := 1) (i := 0) (by decide) z7 (by decide) (hR1.1 0 z7) (hR1.1 1 (by decide))
    have hI1 : inv (g1.1 0) := hR1.2.1
    have hM1 : g1.2.2.2.2 0 = mdl (g1.1 0) := hR1.2.2.1
    have hcl := fun z Q => c_read_l (sc := sc) (g := g1) (Q := Q) (N := l.length) (z := z) u2 u1 l 0 (g1.1 0) (Nat.zero_add _) hb (fun m a b d hm => by rw [Nat.zero_add]; exact u3 m a b d hm) hI1
    have hi := rdS_inv l (g1.1 0) hI1 hb
    have hml := fun (z : Int32) (K : Nat → Int32) (G : SG) => m_read_l (sc := sc) (n := len) (x := g.2.2.1.2 1) l1 (z := z) (K := K) (s0 := g1.1 0) 60 G 0 0 (g1.1 0) l ep hI1
    have hzz : (0 : Int32) = nI 0 := rfl
    generalize hs : (rdS (g1.1 0) l).1 = s' at hcl hi hml
    generalize hr : (rdS (g1.1 0) l).2 = r at hcl hml
    have m1 : ((-1 : Int32) = -1) = True := eq_true rfl
    have m5 : ((-5 : Int32) = -5) = True := eq_true rfl
    by_cases er : r = 0
    · subst er
      simp only [if_true] at hcl hml
      have hRt := R_trial hR1 hi.1
      have hRh1 := Rh_te hh t1
      have hRht := Rh_trial hRh1 (t := s')
      have had := fun Q => c_adopt (sc := sc) (Q := Q) hRt hRht
      rw [stS_at] at had
      obtain ⟨g2, v1, v2⟩ := m_faultOf (sc := sc) (g := stS (remG (stS g1 1 s') fs n) 0 s') (n := len) (x := g.2.2.1.2 1) l1 (by rw [show (stS (remG (stS g1 1 s') fs n) 0 s').2.2.2 = g1.2.2.2 from rfl, t1.2.2.1]; exact l3) (by rw [show (stS (remG (stS g1 1 s') fs n) 0 s').2.2.2 = g1.2.2.2 from rfl, t1.2.2.1]; exact l4.symm)
      rw [ep] at v2
      have q1 : g2.2.2.2.2 = g1.2.2.2.2 := v1.2.2.2.1
      have hM2 : g2.2.2.2.2 0 = mdl (g1.1 0) := by rw [q1]; exact hM1
      have hk := fun Q => m_keep5 (sc := sc) (Q := Q) (g := g2) hM2
      obtain ⟨G', w1, w2⟩ := hml (-5) (g2.2.2.2.2 1) (gD g2 3 0) hM2 ((v1.2.2.2.2 2 (by decide)).trans (by rw [show (stS (remG (stS g1 1 s') fs n) 0 s').2.2.2 = g1.2.2.2 from rfl, t1.2.2.1]; exact l3)) rfl (by show g2.2.2.2.2 2 = _; rw [q1, t1.2.2.1]; exact l4.symm)
      have w3 : eqv (stS (remG (stS g1 1 s') fs n) 0 s') G' := eqv_tr v1 (eqv_tr (eqv_gD eqv_r (by decide)) w1)
      have hs1 : gDN (gDN (gD g2 3 0) 1 (segW (g2.2.2.2.2 1) 9460 1892 (mdl (g1.1 0)))) 0 (mdl (g1.1 0)) = gD (gDN g2 1 (segW (g2.2.2.2.2 1) 9460 1892 (mdl (g1.1 0)))) 3 0 := gDN_s hM2
      rw [hs1] at w2
      have hG0 : G'.2.2.2.1 0 = nI n := (w3.2.2.2.2 0 (by decide)).trans hRh1.2.2.2.2.1
      have hr5 := fun Q => m_record5 (sc := sc) (Q := Q) (g := G') (A := segW (g2.2.2.2.2 1) 9460 1892 (mdl (g1.1 0))) (B := mdl s') hh.2.1 hG0
      rw [gDN_3] at hr5
      have hRf := R_fin (K := segW (g2.2.2.2.2 1) 9460 1892 (mdl (g1.1 0))) (s := s') hRt hRht hi (fun q hq => by rw [segW_out (by omega), q1]; rfl) (fun k hk => segW_in hk)
      refine ⟨nI l.length, stS (remG (stS g1 1 s') fs n) 0 s', gDN (gD (gDN G' 1 (recK (segW (g2.2.2.2.2 1) 9460 1892 (mdl (g1.1 0))) n)) 0 (nI (recN n + 1))) 0 (mdl s'), fun Q => ?_, fun Q => ?_, R_ev hRf (eqv_fin w3)⟩
      · have x1 : (stS (remG (stS g1 1 s') fs n) 0 s').2.2.1.1 1 = nI l.length := u1
        simp only [↓en76, ↓u76_0, ↓u76_1, ↓u76_4, ↓u76_7, ↓u76_8, ↓u76_9, ↓u76_10, ↓u76_18, ↓u76_13, ↓u76_19, ↓u76_15, ↓u76_22, ↓u76_16, ↓u76_23, ↓u76_17, ↓u76_26, ↓u76_29, ↓u76_30, ↓u76_32, ↓u76_33, ↓u76_36, ↓u76_39, ↓u76_124, ↓u76_42, ↓u76_125, ↓u76_43, ↓u76_128, ↓u76_46, ↓u76_129, ↓u76_49, ↓u76_132, ↓u76_50, ↓u76_135, ↓u76_51, ↓u76_54, ↓u76_55, ↓u76_56, ↓u76_59, ↓u76_62, ↓u76_63, ↓u76_64, ↓u76_67, ↓u76_69, ↓u76_70, ↓u76_73, ↓u76_76, ↓u76_77, ↓u76_78, ↓u76_81, ↓u76_83, ↓u76_84, ↓u76_87, ↓u76_88, ↓u76_90, ↓u76_92, ↓u76_95, ↓u76_97, ↓u76_99, ↓u76_105, ↓u76_102, ↓u76_106, ↓u76_104, ↓u76_109, ↓u76_110, ↓u76_112, ↓u76_114, ↓u76_115, ↓u76_118, ↓u76_121, ↓mf7, ↓x_o, ↓u4, ↓c_v_some, m1, if_true, ↓nf0, ↓nf1, ↓s_o (show 1 < 7 by decide), ↓hcp, ↓c_v_none]
        refine (hcl _ _).trans ?_
        simp only [↓u76_0, ↓u76_1, ↓u76_4, ↓u76_7, ↓u76_8, ↓u76_9, ↓u76_10, ↓u76_18, ↓u76_13, ↓u76_19, ↓u76_15, ↓u76_22, ↓u76_16, ↓u76_23, ↓u76_17, ↓u76_26, ↓u76_29, ↓u76_30, ↓u76_32, ↓u76_33, ↓u76_36, ↓u76_39, ↓u76_124, ↓u76_42, ↓u76_125, ↓u76_43, ↓u76_128, ↓u76_46, ↓u76_129, ↓u76_49, ↓u76_132, ↓u76_50, ↓u76_135, ↓u76_51, ↓u76_54, ↓u76_55, ↓u76_56, ↓u76_59, ↓u76_62, ↓u76_63, ↓u76_64, ↓u76_67, ↓u76_69, ↓u76_70, ↓u76_73, ↓u76_76, ↓u76_77, ↓u76_78, ↓u76_81, ↓u76_83, ↓u76_84, ↓u76_87, ↓u76_88, ↓u76_90, ↓u76_92, ↓u76_95, ↓u76_97, ↓u76_99, ↓u76_105, ↓u76_102, ↓u76_106, ↓u76_104, ↓u76_109, ↓u76_110, ↓u76_112, ↓u76_114, ↓u76_115, ↓u76_118, ↓u76_121, ↓m_o, ↓had, ↓c_v_none, ↓mf7, ↓xf1, x1]
      · simp only [↓en159, ↓u159_0, ↓u159_1, ↓u159_4, ↓u159_5, ↓u159_6, ↓u159_8, ↓u159_16, ↓u159_11, ↓u159_17, ↓u159_13, ↓u159_18, ↓u159_14, ↓u159_21, ↓u159_15, ↓u159_22, ↓u159_23, ↓u159_24, ↓u159_25, ↓u159_29, ↓u159_32, ↓u159_33, ↓u159_36, ↓u159_115, ↓u159_39, ↓u159_116, ↓u159_40, ↓u159_119, ↓u159_43, ↓u159_120, ↓u159_44, ↓u159_45, ↓u159_46, ↓u159_49, ↓u159_50, ↓u159_53, ↓u159_54, ↓u159_57, ↓u159_60, ↓u159_62, ↓u159_64, ↓u159_75, ↓u159_67, ↓u159_76, ↓u159_68, ↓u159_77, ↓u159_69, ↓u159_80, ↓u159_72, ↓u159_81, ↓u159_74, ↓u159_84, ↓u159_85, ↓u159_88, ↓u159_91, ↓u159_94, ↓u159_95, ↓u159_96, ↓u159_99, ↓u159_100, ↓u159_107, ↓u159_103, ↓u159_108, ↓u159_104, ↓u159_109, ↓u159_112, ↓d_o, ↓v2, ↓c_v_some, m5, if_true, ↓hk, ↓c_v_none, ↓dp6]
        refine (w2 _).trans ?_
        rw [Nat.zero_add]
        simp only [↓u159_0, ↓u159_1, ↓u159_4, ↓u159_5, ↓u159_6, ↓u159_8, ↓u159_16, ↓u159_11, ↓u159_17, ↓u159_13, ↓u159_18, ↓u159_14, ↓u159_21, ↓u159_15, ↓u159_22, ↓u159_23, ↓u159_24, ↓u159_25, ↓u159_29, ↓u159_32, ↓u159_33, ↓u159_36, ↓u159_115, ↓u159_39, ↓u159_116, ↓u159_40, ↓u159_119, ↓u159_43, ↓u159_120, ↓u159_44, ↓u159_45, ↓u159_46, ↓u159_49, ↓u159_50, ↓u159_53, ↓u159_54, ↓u159_57, ↓u159_60, ↓u159_62, ↓u159_64, ↓u159_75, ↓u159_67, ↓u159_76, ↓u159_68, ↓u159_77, ↓u159_69, ↓u159_80, ↓u159_72, ↓u159_81, ↓u159_74, ↓u159_84, ↓u159_85, ↓u159_88, ↓u159_91, ↓u159_94, ↓u159_95, ↓u159_96, ↓u159_99, ↓u159_100, ↓u159_107, ↓u159_103, ↓u159_108, ↓u159_104, ↓u159_109, ↓u159_112, ↓d_o, ↓hr5, ↓c_v_none]
    · simp only [er, if_false] at hcl hml
      have hRt := R_trial hR1 hi.1
      obtain ⟨g2, v1, v2⟩ := m_faultOf (sc := sc) (g := stS g1 1 s') (n := len) (x := g.2.2.1.2 1) l1 (by rw [show (stS g1 1 s').2.2.2 = g1.2.2.2 from rfl, t1.2.2.1]; exact l3) (by rw [show (stS g1 1 s').2.2.2 = g1.2.2.2 from rfl, t1.2.2.1]; exact l4.symm)
      rw [ep] at v2
      have q1 : g2.2.2.2.2 = g1.2.2.2.2 := v1.2.2.2.1
      have hM2 : g2.2.2.2.2 0 = mdl (g1.1 0) := by rw [q1]; exact hM1
      have hk := fun Q => m_keep5 (sc := sc) (Q := Q) (g := g2) hM2
      obtain ⟨G', w1, w2⟩ := hml (-5) (g2.2.2.2.2 1) (gD g2 3 0) hM2 ((v1.2.2.2.2 2 (by decide)).trans (by rw [show (stS g1 1 s').2.2.2 = g1.2.2.2 from rfl, t1.2.2.1]; exact l3)) rfl (by show g2.2.2.2.2 2 = _; rw [q1, t1.2.2.1]; exact l4.symm)
      have w3 : eqv (stS g1 1 s') G' := eqv_tr v1 (eqv_tr (eqv_gD eqv_r (by decide)) w1)
      have hs1 : gDN (gDN (gD g2 3 0) 1 (segW (g2.2.2.2.2 1) 9460 1892 (mdl (g1.1 0)))) 0 (mdl (g1.1 0)) = gD (gDN g2 1 (segW (g2.2.2.2.2 1) 9460 1892 (mdl (g1.1 0)))) 3 0 := gDN_s hM2
      rw [hs1] at w2
      refine ⟨r, stS g1 1 s', gDN G' 1 (segW (g2.2.2.2.2 1) 9460 1892 (mdl (g1.1 0))), fun Q => ?_, fun Q => ?_, R_k5 (R_ev hRt w3) (fun q hq => by rw [segW_out (by omega), q1, w3.2.2.2.1]; rfl)⟩
      · simp only [↓en76, ↓u76_0, ↓u76_1, ↓u76_4, ↓u76_7, ↓u76_8, ↓u76_9, ↓u76_10, ↓u76_18, ↓u76_13, ↓u76_19, ↓u76_15, ↓u76_22, ↓u76_16, ↓u76_23, ↓u76_17, ↓u76_26, ↓u76_29, ↓u76_30, ↓u76_32, ↓u76_33, ↓u76_36, ↓u76_39, ↓u76_124, ↓u76_42, ↓u76_125, ↓u76_43, ↓u76_128, ↓u76_46, ↓u76_129, ↓u76_49, ↓u76_132, ↓u76_50, ↓u76_135, ↓u76_51, ↓u76_54, ↓u76_55, ↓u76_56, ↓u76_59, ↓u76_62, ↓u76_63, ↓u76_64, ↓u76_67, ↓u76_69, ↓u76_70, ↓u76_73, ↓u76_76, ↓u76_77, ↓u76_78, ↓u76_81, ↓u76_83, ↓u76_84, ↓u76_87, ↓u76_88, ↓u76_90, ↓u76_92, ↓u76_95, ↓u76_97, ↓u76_99, ↓u76_105, ↓u76_102, ↓u76_106, ↓u76_104, ↓u76_109, ↓u76_110, ↓u76_112, ↓u76_114, ↓u76_115, ↓u76_118, ↓u76_121, ↓mf7, ↓x_o, ↓u4, ↓c_v_some, m1, if_true, ↓nf0, ↓nf1, ↓s_o (show 1 < 7 by decide), ↓hcp, ↓c_v_none]
        exact hcl _ _
      · simp only [↓en159, ↓u159_0, ↓u159_1, ↓u159_4, ↓u159_5, ↓u159_6, ↓u159_8, ↓u159_16, ↓u159_11, ↓u159_17, ↓u159_13, ↓u159_18, ↓u159_14, ↓u159_21, ↓u159_15, ↓u159_22, ↓u159_23, ↓u159_24, ↓u159_25, ↓u159_29, ↓u159_32, ↓u159_33, ↓u159_36, ↓u159_115, ↓u159_39, ↓u159_116, ↓u159_40, ↓u159_119, ↓u159_43, ↓u159_120, ↓u159_44, ↓u159_45, ↓u159_46, ↓u159_49, ↓u159_50, ↓u159_53, ↓u159_54, ↓u159_57, ↓u159_60, ↓u159_62, ↓u159_64, ↓u159_75, ↓u159_67, ↓u159_76, ↓u159_68, ↓u159_77, ↓u159_69, ↓u159_80, ↓u159_72, ↓u159_81, ↓u159_74, ↓u159_84, ↓u159_85, ↓u159_88, ↓u159_91, ↓u159_94, ↓u159_95, ↓u159_96, ↓u159_99, ↓u159_100, ↓u159_107, ↓u159_103, ↓u159_108, ↓u159_104, ↓u159_109, ↓u159_112, ↓d_o, ↓v2, ↓c_v_some, m5, if_true, ↓hk, ↓c_v_none, ↓dp6]
        exact w2 _
end
