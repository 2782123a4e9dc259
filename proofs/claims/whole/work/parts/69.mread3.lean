/-! TEXTS: the plain form reads again and places -/
theorem eqv_sp {G g' : SG} {A B : Nat → Int32} (h : eqv (gDN (gDN G 1 A) 0 B) g') : ∃ G', eqv G G' ∧ g' = gDN (gDN G' 1 A) 0 B ∧ G'.2.2.2.1 = g'.2.2.2.1 := by
  obtain ⟨h1, h2, h3, h4, h5⟩ := h
  refine ⟨(G.1, G.2.1, G.2.2.1, g'.2.2.2.1, G.2.2.2.2), ⟨rfl, rfl, rfl, rfl, h5⟩, ?_, rfl⟩
  refine Prod.ext h1 (Prod.ext h2 (Prod.ext h3 (Prod.ext rfl h4)))
section
variable {sc : Nat × (Nat → Int32)} {n : Nat} {x : Nat → Int32}
theorem m_read_l (hn : n ≤ 60) {z : Int32} {K : Nat → Int32} {s0 : SV} : ∀ (k : Nat) (G : SG) (p c : Nat) (s : SV) (l : List (Nat × Nat × Nat)), prs x n k p = .inl l → inv s → G.2.2.2.2 0 = mdl s0 → G.2.2.2.1 2 = nI n → G.2.2.2.1 3 = nI p → G.2.2.2.2 2 = x → ∃ G', eqv G G' ∧ ∀ Q, rv sc 159 28 [(0, .ref 154), (1, .int z), (2, .int (nI c))] [] (Wd (gDN (gDN G 1 (segW K 9460 1892 (mdl s0))) 0 (mdl s))) Q = if (rdS s l).2 = 0 then rv sc 159 115 [(0, .ref 154), (1, .int z), (2, .int (nI (c + l.length)))] [] (Wd (gDN (gDN G' 1 (segW K 9460 1892 (mdl s0))) 0 (mdl (rdS s l).1))) Q else Q (some (.int (rdS s l).2)) (Wd (gDN G' 1 (segW K 9460 1892 (mdl s0)))) := by
  intro k
  induction k with
  | zero =>
    intro G p c s l h
    rw [show prs x n 0 p = .inr p from rfl] at h
    cases h
  | succ k ih =>
    intro G p c s l h hI hM e0 e2 ex
    unfold prs at h
    cases et : tpl x n p with
    | mk q o =>
      rw [et] at h
      cases o with
      | none => cases h
      | some t =>
        obtain ⟨a, b, d⟩ := t
        have hl := tpl_lt et
        obtain ⟨g', v1, v2, v3, v4⟩ := m_passesPlacing (sc := sc) (g := gDN (gDN G 1 (segW K 9460 1892 (mdl s0))) 0 (mdl s)) (n := n) (p := p) (x := x) hn (by omega) e0 e2 ex
        rw [et] at v2 v3 v4
        obtain ⟨y1, y2, y3⟩ := v3 a b d rfl
        simp only [Option.isSome_some, if_true] at v4
        obtain ⟨G1, w1, rfl, w3⟩ := eqv_sp v1
        have k1 : ¬ nI n ≤ nI p := nI_ge (by omega) (by omega)
        have k2 : nI p < nI n := nI_lt (by omega) (by omega)
        have z0 : (gDN (gDN G 1 (segW K 9460 1892 (mdl s0))) 0 (mdl s)).2.2.2.1 2 = nI n := e0
        have z2 : (gDN (gDN G 1 (segW K 9460 1892 (mdl s0))) 0 (mdl s)).2.2.2.1 3 = nI p := e2
        have hM1 : G1.2.2.2.2 0 = mdl s0 := by rw [w1.2.2.2.1]; exact hM
        have he := fun Q => m_placeError (sc := sc) (Q := Q) (g := gDN (gDN G1 1 (segW K 9460 1892 (mdl s0))) 0 (mdl s)) (v := nI a) (m := nI b) (r := nI d) hI gDN_at
        by_cases e : errS s (nI a) (nI b) (nI d) = 0
        · obtain ⟨c1, m1, r1, h0⟩ := errS_n hI hl.2.2.1 hl.2.2.2.1 hl.2.2.2.2 e
          have h48 := (sl48 hI).1
          have h20 := nC20 hI
          have h6 := nR6 hI
          have hpu := fun Q => m_puts (sc := sc) (Q := Q) (g := gDN (gDN G1 1 (segW K 9460 1892 (mdl s0))) 0 (mdl s)) (s := s) (c := a) (m := b) (r := d) gDN_at (by omega) (by omega) (by omega)
          rw [mdl_in hI c1 m1 r1 h0, gDN_tw] at hpu
          have x3 : (gDN (gDN G1 1 (segW K 9460 1892 (mdl s0))) 0 (mdl (setL s a b d true))).2.2.2.1 3 = nI q := v2
          have hi2 := inv_in hI c1 r1 m1 h0
          have hstep : ∀ Q, rv sc 159 28 [(0, .ref 154), (1, .int z), (2, .int (nI c))] [] (Wd (gDN (gDN G 1 (segW K 9460 1892 (mdl s0))) 0 (mdl s))) Q = rv sc 159 28 [(0, .ref 154), (1, .int z), (2, .int (nI (c + 1)))] [] (Wd (gDN (gDN (gD G1 3 (nI (q + 1))) 1 (segW K 9460 1892 (mdl s0))) 0 (mdl (setL s a b d true)))) Q := fun Q => by
            refine Eq.trans ?_ (show rv sc 159 28 [(0, .ref 154), (1, .int z), (2, .int (nI (c + 1)))] [] (Wd (gD (gDN (gDN G1 1 (segW K 9460 1892 (mdl s0))) 0 (mdl (setL s a b d true))) 3 (nI (q + 1)))) Q = _ from rfl)
            rw [u159_28]
            simp only [↓u159_0, ↓u159_1, ↓u159_4, ↓u159_5, ↓u159_6, ↓u159_8, ↓u159_16, ↓u159_11, ↓u159_17, ↓u159_13, ↓u159_18, ↓u159_14, ↓u159_21, ↓u159_15, ↓u159_22, ↓u159_23, ↓u159_24, ↓u159_25, ↓u159_29, ↓u159_32, ↓u159_33, ↓u159_36, ↓u159_115, ↓u159_39, ↓u159_116, ↓u159_40, ↓u159_119, ↓u159_43, ↓u159_120, ↓u159_44, ↓u159_45, ↓u159_46, ↓u159_49, ↓u159_50, ↓u159_53, ↓u159_54, ↓u159_57, ↓u159_60, ↓u159_62, ↓u159_64, ↓u159_75, ↓u159_67, ↓u159_76, ↓u159_68, ↓u159_77, ↓u159_69, ↓u159_80, ↓u159_72, ↓u159_81, ↓u159_74, ↓u159_84, ↓u159_85, ↓u159_88, ↓u159_91, ↓u159_94, ↓u159_95, ↓u159_96, ↓u159_99, ↓u159_100, ↓u159_107, ↓u159_103, ↓u159_108, ↓u159_104, ↓u159_109, ↓u159_112, ↓df5, ↓df6, ↓df8, ↓df9, ↓df10, z0, z2, k1, k2, if_true, if_false, ↓d_o, ↓v4, ↓c_v_some, y1, y2, y3, ↓he, e, ↓hpu, ↓c_v_none, n10, x3, nI_1, ↓dp6]
          by_cases hq : n ≤ q
          · simp only [hq, if_true] at h
            cases h
            refine ⟨gD G1 3 (nI (q + 1)), eqv_gD w1 (by decide), fun Q => ?_⟩
            rw [rdS_0 e, hstep]
            have k3 : nI n ≤ nI (q + 1) := nI_le (by omega) (by omega)
            have k4 : ¬ nI (q + 1) < nI n := nI_nlt (by omega) (by omega)
            have j0 : (gDN (gDN (gD G1 3 (nI (q + 1))) 1 (segW K 9460 1892 (mdl s0))) 0 (mdl (setL s a b d true))).2.2.2.1 2 = nI n := (w1.2.2.2.2 2 (by decide)).trans e0
            have j2 : (gDN (gDN (gD G1 3 (nI (q + 1))) 1 (segW K 9460 1892 (mdl s0))) 0 (mdl (setL s a b d true))).2.2.2.1 3 = nI (q + 1) := rfl
            rw [u159_28]
            simp only [↓u159_29, ↓u159_32, ↓u159_33, ↓u159_36, ↓df5, ↓df6, j0, j2, k3, k4, if_true, if_false, rdS, List.length_cons, List.length_nil, Nat.zero_add]
          · simp only [hq, if_false] at h
            by_cases s3 : tsg x n q 59 = true
            · simp only [s3, if_true] at h
              cases er : prs x n k (q + 1) with
              | inr e' =>
                rw [er] at h
                cases h
              | inl l' =>
                rw [er] at h
                cases h
                obtain ⟨G2, t1, t2⟩ := ih (gD G1 3 (nI (q + 1))) (q + 1) (c + 1) (setL s a b d true) l' er hi2 hM1 ((w1.2.2.2.2 2 (by decide)).trans e0) rfl (by show G1.2.2.2.2 2 = x; rw [w1.2.2.2.1]; exact ex)
                refine ⟨G2, eqv_tr (eqv_gD w1 (by decide)) t1, fun Q => ?_⟩
                rw [rdS_0 e, hstep, t2, List.length_cons, show c + (l'.length + 1) = c + 1 + l'.length by omega]
            · simp only [s3, if_false, Bool.false_eq_true] at h
              cases h
        · have hb := fun Q => m_back (sc := sc) (Q := Q) (g := G1) (K := K) (s1 := s) hM1
          have hll : ∃ l', l = (a, b, d) :: l' := by
            by_cases hq : n ≤ q
            · simp only [hq, if_true] at h
              cases h
              exact ⟨[], rfl⟩
            · simp only [hq, if_false] at h
              by_cases s3 : tsg x n q 59 = true
              · simp only [s3, if_true] at h
                cases er : prs x n k (q + 1) with
                | inr e' =>
                  rw [er] at h
                  cases h
                | inl l' =>
                  rw [er] at h
                  cases h
                  exact ⟨l', rfl⟩
              · simp only [s3, if_false, Bool.false_eq_true] at h
                cases h
          obtain ⟨l', rfl⟩ := hll
          refine ⟨G1, w1, fun Q => ?_⟩
          rw [rdS_e e, if_neg e, u159_28]
          simp only [↓u159_0, ↓u159_1, ↓u159_4, ↓u159_5, ↓u159_6, ↓u159_8, ↓u159_16, ↓u159_11, ↓u159_17, ↓u159_13, ↓u159_18, ↓u159_14, ↓u159_21, ↓u159_15, ↓u159_22, ↓u159_23, ↓u159_24, ↓u159_25, ↓u159_29, ↓u159_32, ↓u159_33, ↓u159_36, ↓u159_115, ↓u159_39, ↓u159_116, ↓u159_40, ↓u159_119, ↓u159_43, ↓u159_120, ↓u159_44, ↓u159_45, ↓u159_46, ↓u159_49, ↓u159_50, ↓u159_53, ↓u159_54, ↓u159_57, ↓u159_60, ↓u159_62, ↓u159_64, ↓u159_75, ↓u159_67, ↓u159_76, ↓u159_68, ↓u159_77, ↓u159_69, ↓u159_80, ↓u159_72, ↓u159_81, ↓u159_74, ↓u159_84, ↓u159_85, ↓u159_88, ↓u159_91, ↓u159_94, ↓u159_95, ↓u159_96, ↓u159_99, ↓u159_100, ↓u159_107, ↓u159_103, ↓u159_108, ↓u159_104, ↓u159_109, ↓u159_112, ↓df5, ↓df6, ↓df8, ↓df9, ↓df10, z0, z2, k1, k2, if_true, if_false, ↓d_o, ↓v4, ↓c_v_some, y1, y2, y3, ↓he, e, ↓hb, ↓c_v_none]
end
