/-! ONE CALL: the cycle, courses, and acts over the trial -/
section
variable {sc : Nat × (Nat → Int32)} {s : SV} {g : SG} {fs n j : Nat} {Q : Option Value → ri_W → Prop}
theorem p_setCycle (hJ : inv2 s) {x y : Int32} : Stq sc 54 [.ref 0, .int x, .int y] s := by
  have hI := hJ.1
  have hD8 := nD8 hI
  have hP6 := nP6 hI
  rcases iiR (x := x) (A := 2) (B := 8) (a := 2) (b := 8) rfl rfl (by decide) with ⟨d, d1, d2, rfl, d3⟩ | d3
  · rcases iiR (x := y) (A := 2) (B := 6) (a := 2) (b := 6) rfl rfl (by decide) with ⟨p, p1, p2, rfl, p3⟩ | p3
    · have hpl : sm (plc s) (nC s) ≤ 64 * 20 := by
        have h20 := nC20 hI
        have : ∀ m, sm (plc s) m ≤ 64 * m := by
          intro m
          induction m with
          | zero => exact Nat.le_refl _
          | succ m ih =>
            have h1 : plc s m ≤ 64 := pcn_le _
            show sm (plc s) m + plc s m ≤ _
            omega
        have := this (nC s)
        omega
      by_cases e : sm (plc s) (nC s) = 0
      · have k1 : ¬ (0 : Int32) < nI (sm (plc s) (nC s)) := by rw [e]; decide
        have k2 : nI (sm (plc s) (nC s)) ≤ 0 := Int32.not_lt.mp k1
        by_cases e2 : d = nD s ∧ p = nP s
        · obtain ⟨rfl, rfl⟩ := e2
          refine stp_q (u := -5) (by decide) (fun g fs n h e9 Q => ?_)
          subst e9
          simp only [↓en54, ↓u54_0, ↓u54_1, ↓u54_2, ↓u54_4, ↓u54_7, ↓u54_20, ↓u54_10, ↓u54_22, ↓u54_11, ↓u54_12, ↓u54_14, ↓u54_17, ↓u54_23, ↓u54_24, ↓u54_27, ↓u54_30, ↓u54_36, ↓u54_33, ↓u54_37, ↓u54_35, ↓u54_38, ↓u54_41, ↓u54_44, ↓u54_61, ↓u54_47, ↓u54_62, ↓u54_48, ↓u54_65, ↓u54_49, ↓u54_66, ↓u54_52, ↓u54_69, ↓u54_55, ↓u54_70, ↓u54_58, ↓u54_73, ↓u54_60, ↓u54_74, ↓u54_77, ↓u54_78, ↓u54_81, ↓u54_82, ↓u54_85, ↓u54_88, ↓u54_91, ↓u54_92, ↓u54_95, ↓u54_98, ↓s_isIn, ↓c_v_some, d3, p3, n10, if_false, if_true, ↓nf0, ↓s_o z7, ↓s_allPlaced z7, plcAll_eq hI, k1, k2, ↓sf0 z7, ↓sf1 z7, nD_eq hI, nP_eq hI]
        · have ne : (nI d = nI (nD s)) = (d = nD s) := propext (nI_eq (by omega) (by omega))
          have ne2 : (nI p = nI (nP s)) = (p = nP s) := propext (nI_eq (by omega) (by omega))
          have hi := i2_cycle hJ d1 d2 p1 p2 (by rw [plcAll_eq hI]; exact e)
          have hnf : nf (sS (sS s 0 (nI d)) 1 (nI p)) := sS_nf (sS_nf hI.1 (by decide)) (by decide)
          have hv : (sJ (sS (sS s 0 (nI d)) 1 (nI p)) 1 (fun _ => 0)).1 0 * (sJ (sS (sS s 0 (nI d)) 1 (nI p)) 1 (fun _ => 0)).1 1 = nI (d * p) := pk_mul d p
          have hdp : d * p ≤ 8 * 6 := Nat.mul_le_mul d2 p2
          generalize hs' : sJ (sS (sS s 0 (nI d)) 1 (nI p)) 1 (fun _ => 0) = s' at hi hv
          refine stp_a (u := nI (d * p)) (nI_nn (by omega)) hi (fun g fs n h e9 Q => ?_)
          subst e9
          have hcl := fun Q => w_clear (sc := sc) (Q := Q) (g := stS (remG g fs n) 0 (sS (sS (g.1 0) 0 (nI d)) 1 (nI p))) (j := 0) z7 (by rw [stS_at]; exact hnf)
          rw [stS_at, stS_twice, hs'] at hcl
          have hsl : ∀ Q, ev sc 15 [.ref (bs 0)] (Wd (stS (remG g fs n) 0 s')) Q = Q (some (.int (nI (d * p)))) (Wd (stS (remG g fs n) 0 s')) := fun Q => by
            rw [s_slots z7, stS_at, hv]
          simp only [↓en54, ↓u54_0, ↓u54_1, ↓u54_2, ↓u54_4, ↓u54_7, ↓u54_20, ↓u54_10, ↓u54_22, ↓u54_11, ↓u54_12, ↓u54_14, ↓u54_17, ↓u54_23, ↓u54_24, ↓u54_27, ↓u54_30, ↓u54_36, ↓u54_33, ↓u54_37, ↓u54_35, ↓u54_38, ↓u54_41, ↓u54_44, ↓u54_61, ↓u54_47, ↓u54_62, ↓u54_48, ↓u54_65, ↓u54_49, ↓u54_66, ↓u54_52, ↓u54_69, ↓u54_55, ↓u54_70, ↓u54_58, ↓u54_73, ↓u54_60, ↓u54_74, ↓u54_77, ↓u54_78, ↓u54_81, ↓u54_82, ↓u54_85, ↓u54_88, ↓u54_91, ↓u54_92, ↓u54_95, ↓u54_98, ↓s_isIn, ↓c_v_some, d3, p3, n10, if_false, if_true, ↓nf0, ↓s_o z7, ↓s_allPlaced z7, plcAll_eq hI, k1, k2, ↓sf0 z7, ↓sf1 z7, nD_eq hI, nP_eq hI, ne, ne2, ↓m_o, ↓c_rem h, ↓c_v_none, remG_0, sp0 z7, sp1 z7, stS_at, stS_twice, ↓sf10 z7, ↓j_o1 z7, hcl, hsl]
          by_cases q1 : d = nD (g.1 0)
          · have q2 : ¬ p = nP (g.1 0) := fun q2 => e2 ⟨q1, q2⟩
            rw [if_pos q1, if_neg q2]
          · rw [if_neg q1]
      · have k1 : (0 : Int32) < nI (sm (plc s) (nC s)) := nI_lt (a := 0) (by omega) (by omega)
        have k2 : ¬ nI (sm (plc s) (nC s)) ≤ 0 := nI_nle (by omega) (by omega)
        refine stp_q (u := -4) (by decide) (fun g fs n h e9 Q => ?_)
        subst e9
        simp only [↓en54, ↓u54_0, ↓u54_1, ↓u54_2, ↓u54_4, ↓u54_7, ↓u54_20, ↓u54_10, ↓u54_22, ↓u54_11, ↓u54_12, ↓u54_14, ↓u54_17, ↓u54_23, ↓u54_24, ↓u54_27, ↓u54_30, ↓u54_36, ↓u54_33, ↓u54_37, ↓u54_35, ↓u54_38, ↓u54_41, ↓u54_44, ↓u54_61, ↓u54_47, ↓u54_62, ↓u54_48, ↓u54_65, ↓u54_49, ↓u54_66, ↓u54_52, ↓u54_69, ↓u54_55, ↓u54_70, ↓u54_58, ↓u54_73, ↓u54_60, ↓u54_74, ↓u54_77, ↓u54_78, ↓u54_81, ↓u54_82, ↓u54_85, ↓u54_88, ↓u54_91, ↓u54_92, ↓u54_95, ↓u54_98, ↓s_isIn, ↓c_v_some, d3, p3, n10, if_false, if_true, ↓nf0, ↓s_o z7, ↓s_allPlaced z7, plcAll_eq hI, k1, k2]
    · refine stp_q (u := -2) (by decide) (fun g fs n h e9 Q => ?_)
      subst e9
      simp only [↓en54, ↓u54_0, ↓u54_1, ↓u54_2, ↓u54_4, ↓u54_7, ↓u54_20, ↓u54_10, ↓u54_22, ↓u54_11, ↓u54_12, ↓u54_14, ↓u54_17, ↓u54_23, ↓u54_24, ↓u54_27, ↓u54_30, ↓u54_36, ↓u54_33, ↓u54_37, ↓u54_35, ↓u54_38, ↓u54_41, ↓u54_44, ↓u54_61, ↓u54_47, ↓u54_62, ↓u54_48, ↓u54_65, ↓u54_49, ↓u54_66, ↓u54_52, ↓u54_69, ↓u54_55, ↓u54_70, ↓u54_58, ↓u54_73, ↓u54_60, ↓u54_74, ↓u54_77, ↓u54_78, ↓u54_81, ↓u54_82, ↓u54_85, ↓u54_88, ↓u54_91, ↓u54_92, ↓u54_95, ↓u54_98, ↓s_isIn, ↓c_v_some, d3, p3, n10, n00, if_false, if_true]
  · refine stp_q (u := -2) (by decide) (fun g fs n h e9 Q => ?_)
    subst e9
    simp only [↓en54, ↓u54_0, ↓u54_1, ↓u54_2, ↓u54_4, ↓u54_7, ↓u54_20, ↓u54_10, ↓u54_22, ↓u54_11, ↓u54_12, ↓u54_14, ↓u54_17, ↓u54_23, ↓u54_24, ↓u54_27, ↓u54_30, ↓u54_36, ↓u54_33, ↓u54_37, ↓u54_35, ↓u54_38, ↓u54_41, ↓u54_44, ↓u54_61, ↓u54_47, ↓u54_62, ↓u54_48, ↓u54_65, ↓u54_49, ↓u54_66, ↓u54_52, ↓u54_69, ↓u54_55, ↓u54_70, ↓u54_58, ↓u54_73, ↓u54_60, ↓u54_74, ↓u54_77, ↓u54_78, ↓u54_81, ↓u54_82, ↓u54_85, ↓u54_88, ↓u54_91, ↓u54_92, ↓u54_95, ↓u54_98, ↓s_isIn, ↓c_v_some, d3, n00, if_true]
theorem p_join (hJ : inv2 s) {v y : Int32} : Stq sc 60 [.ref 0, .int v, .int y] s := by
  have hI := hJ.1
  have h20 := nC20 hI
  have hG8 := nG8 hI
  rcases ii_cases (v := v) (n := nC s) (by omega) with ⟨c, c1, rfl, c2⟩ | ⟨-, c2⟩
  · rcases ii_cases (v := y) (n := nG s) (by omega) with ⟨x, x1, rfl, x2⟩ | ⟨-, x2⟩
    · have hc20 : c < 20 := by omega
      have hpl : plc s c ≤ 64 := pcn_le _
      by_cases ok : fact s c 2 = 0 ∧ fact s c 1 = -5 ∧ ¬ fact s c 0 = nI x ∧ plc s c = 0
      · obtain ⟨q1, q2, q3, q4⟩ := ok
        have k1 : ¬ (0 : Int32) < nI (plc s c) := by rw [q4]; decide
        have k2 : nI (plc s c) ≤ 0 := Int32.not_lt.mp k1
        have hi := i2_join hJ c1 x1 q1 q4
        have e5 : fact (sN s 2 (upF (s.2.1 2) (c * 6 + 1) (nI x))) c 5 = fact s c 5 := by
          unfold fact
          rw [sN_at, upF_ne (by omega)]
        have ep : plc (sN s 2 (upF (s.2.1 2) (c * 6 + 1) (nI x))) c = 0 := q4
        obtain ⟨l1, l2, l3⟩ := hI.2.2.2.1 c c1
        rw [l1] at e5
        generalize hs' : sN s 2 (upF (s.2.1 2) (c * 6 + 1) (nI x)) = s' at hi e5 ep
        refine stp_a (u := nI (fL s c)) (nI_nn (by omega)) hi (fun g fs n h e9 Q => ?_)
        subst e9
        have hms : ∀ Q, ev sc 37 [.ref (bs 0), .int (nI c)] (Wd (stS (remG g fs n) 0 s')) Q = Q (some (.int (nI (fL (g.1 0) c)))) (Wd (stS (remG g fs n) 0 s')) := fun Q => by
          rw [s_missing z7 hc20, stS_at, ep, show nI 0 = 0 from rfl, Int32.sub_zero, e5]
        simp only [↓en60, ↓u60_0, ↓u60_1, ↓u60_2, ↓u60_5, ↓u60_16, ↓u60_8, ↓u60_17, ↓u60_9, ↓u60_10, ↓u60_13, ↓u60_18, ↓u60_19, ↓u60_22, ↓u60_23, ↓u60_24, ↓u60_27, ↓u60_68, ↓u60_30, ↓u60_70, ↓u60_31, ↓u60_34, ↓u60_35, ↓u60_36, ↓u60_39, ↓u60_41, ↓u60_44, ↓u60_45, ↓u60_48, ↓u60_49, ↓u60_50, ↓u60_53, ↓u60_54, ↓u60_57, ↓u60_58, ↓u60_61, ↓u60_62, ↓u60_65, ↓u60_71, ↓u60_72, ↓u60_75, ↓u60_76, ↓u60_79, ↓u60_82, ↓u60_83, ↓u60_84, ↓u60_85, ↓u60_88, ↓u60_89, ↓u60_92, ↓u60_93, ↓u60_96, ↓m_o, ↓c_knowsCourse, ↓c_knowsGroup, ↓c_v_some, nC_eq hI, nG_eq hI, c2, x2, n10, if_false, if_true, ↓nf0, ↓s_o z7, ↓s_fact0 z7 hc20, ↓s_fact1 z7 hc20, ↓s_fact2 z7 hc20, q1, q2, q3, ↓s_placed z7 hc20, k1, k2, ↓c_rem h, ↓c_v_none, ↓sf8 z7, ↓n_o2 z7, w_cf1 z7 hc20, remG_0, hs', hms]
      · have k3 : (nI (plc s c) ≤ 0) = (plc s c = 0) := propext ((nI_leI (b := 0) (by omega) (by decide)).trans Nat.le_zero)
        have k4 : ((0 : Int32) < nI (plc s c)) = ¬ (plc s c = 0) := propext ((nI_ltI (a := 0) (by decide) (by omega)).trans Nat.pos_iff_ne_zero)
        refine stp_q (u := -4) (by decide) (fun g fs n h e9 Q => ?_)
        subst e9
        simp only [↓en60, ↓u60_0, ↓u60_1, ↓u60_2, ↓u60_5, ↓u60_16, ↓u60_8, ↓u60_17, ↓u60_9, ↓u60_10, ↓u60_13, ↓u60_18, ↓u60_19, ↓u60_22, ↓u60_23, ↓u60_24, ↓u60_27, ↓u60_68, ↓u60_30, ↓u60_70, ↓u60_31, ↓u60_34, ↓u60_35, ↓u60_36, ↓u60_39, ↓u60_41, ↓u60_44, ↓u60_45, ↓u60_48, ↓u60_49, ↓u60_50, ↓u60_53, ↓u60_54, ↓u60_57, ↓u60_58, ↓u60_61, ↓u60_62, ↓u60_65, ↓u60_71, ↓u60_72, ↓u60_75, ↓u60_76, ↓u60_79, ↓u60_82, ↓u60_83, ↓u60_84, ↓u60_85, ↓u60_88, ↓u60_89, ↓u60_92, ↓u60_93, ↓u60_96, ↓m_o, ↓c_knowsCourse, ↓c_knowsGroup, ↓c_v_some, nC_eq hI, nG_eq hI, c2, x2, n10, if_false, if_true, ↓nf0, ↓s_o z7, ↓s_fact0 z7 hc20, ↓s_fact1 z7 hc20, ↓s_fact2 z7 hc20, ↓s_placed z7 hc20, k3, k4]
        by_cases q1 : fact (g.1 0) c 2 = 0 <;> by_cases q2 : fact (g.1 0) c 1 = -5 <;> by_cases q3 : fact (g.1 0) c 0 = nI x <;> by_cases q4 : plc (g.1 0) c = 0 <;> first | exact absurd (And.intro q1 (And.intro q2 (And.intro q3 q4))) ok | simp only [q1, q2, q3, q4, if_true, if_false, not_true_eq_false, not_false_eq_true]
    · refine stp_q (u := -1) (by decide) (fun g fs n h e9 Q => ?_)
      subst e9
      simp only [↓en60, ↓u60_0, ↓u60_1, ↓u60_2, ↓u60_5, ↓u60_16, ↓u60_8, ↓u60_17, ↓u60_9, ↓u60_10, ↓u60_13, ↓u60_18, ↓u60_19, ↓u60_22, ↓u60_23, ↓u60_24, ↓u60_27, ↓u60_68, ↓u60_30, ↓u60_70, ↓u60_31, ↓u60_34, ↓u60_35, ↓u60_36, ↓u60_39, ↓u60_41, ↓u60_44, ↓u60_45, ↓u60_48, ↓u60_49, ↓u60_50, ↓u60_53, ↓u60_54, ↓u60_57, ↓u60_58, ↓u60_61, ↓u60_62, ↓u60_65, ↓u60_71, ↓u60_72, ↓u60_75, ↓u60_76, ↓u60_79, ↓u60_82, ↓u60_83, ↓u60_84, ↓u60_85, ↓u60_88, ↓u60_89, ↓u60_92, ↓u60_93, ↓u60_96, ↓m_o, ↓c_knowsCourse, ↓c_knowsGroup, ↓c_v_some, nC_eq hI, nG_eq hI, c2, x2, n10, n00, if_false, if_true]
  · refine stp_q (u := -1) (by decide) (fun g fs n h e9 Q => ?_)
    subst e9
    simp only [↓en60, ↓u60_0, ↓u60_1, ↓u60_2, ↓u60_5, ↓u60_16, ↓u60_8, ↓u60_17, ↓u60_9, ↓u60_10, ↓u60_13, ↓u60_18, ↓u60_19, ↓u60_22, ↓u60_23, ↓u60_24, ↓u60_27, ↓u60_68, ↓u60_30, ↓u60_70, ↓u60_31, ↓u60_34, ↓u60_35, ↓u60_36, ↓u60_39, ↓u60_41, ↓u60_44, ↓u60_45, ↓u60_48, ↓u60_49, ↓u60_50, ↓u60_53, ↓u60_54, ↓u60_57, ↓u60_58, ↓u60_61, ↓u60_62, ↓u60_65, ↓u60_71, ↓u60_72, ↓u60_75, ↓u60_76, ↓u60_79, ↓u60_82, ↓u60_83, ↓u60_84, ↓u60_85, ↓u60_88, ↓u60_89, ↓u60_92, ↓u60_93, ↓u60_96, ↓m_o, ↓c_knowsCourse, ↓c_v_some, nC_eq hI, c2, n00, if_true]
theorem p_addCourse (hJ : inv2 s) {v p y q l : Int32} : Stq sc 59 [.ref 0, .int v, .int p, .int y, .int q, .int l] s := by
  have hI := hJ.1
  have h20 := nC20 hI
  have hG8 := nG8 hI
  have hT8 := nT8 hI
  rcases ii_cases (v := v) (n := nG s) (by omega) with ⟨x, x1, rfl, x2⟩ | ⟨-, x2⟩
  · rcases ii_cases (v := y) (n := nT s) (by omega) with ⟨t, t1, rfl, t2⟩ | ⟨-, t2⟩
    · rcases iiR (x := p) (A := 0) (B := 2) (a := 0) (b := 2) rfl rfl (by decide) with ⟨pp, -, p1, rfl, p2⟩ | p2
      · rcases ii01 (v := q) (a := 0) (b := 15) with q2 | q2
        · rcases iiR (x := l) (A := 1) (B := 10) (a := 1) (b := 10) rfl rfl (by decide) with ⟨ll, l0, l1, rfl, l2⟩ | l2
          · by_cases e : nC s = 20
            · refine stp_q (u := -3) (by decide) (fun g fs n h e9 Q => ?_)
              subst e9
              have e1 : (g.1 0).1 5 = 20 := by rw [nC_eq hI, e]; rfl
              simp only [↓en59, ↓u59_0, ↓u59_1, ↓u59_2, ↓u59_5, ↓u59_16, ↓u59_8, ↓u59_17, ↓u59_9, ↓u59_10, ↓u59_13, ↓u59_18, ↓u59_19, ↓u59_20, ↓u59_21, ↓u59_24, ↓u59_49, ↓u59_27, ↓u59_51, ↓u59_29, ↓u59_30, ↓u59_32, ↓u59_35, ↓u59_38, ↓u59_40, ↓u59_41, ↓u59_43, ↓u59_46, ↓u59_52, ↓u59_53, ↓u59_56, ↓u59_59, ↓u59_61, ↓u59_67, ↓u59_64, ↓u59_68, ↓u59_66, ↓u59_71, ↓u59_72, ↓u59_75, ↓u59_78, ↓u59_80, ↓u59_81, ↓u59_84, ↓u59_87, ↓u59_89, ↓u59_90, ↓u59_91, ↓u59_94, ↓u59_95, ↓u59_98, ↓u59_101, ↓u59_103, ↓u59_104, ↓u59_106, ↓u59_109, ↓u59_110, ↓u59_113, ↓u59_116, ↓u59_118, ↓u59_119, ↓u59_120, ↓u59_123, ↓u59_124, ↓u59_127, ↓u59_130, ↓u59_132, ↓u59_133, ↓u59_134, ↓u59_137, ↓u59_138, ↓u59_141, ↓u59_144, ↓u59_146, ↓u59_147, ↓u59_149, ↓u59_152, ↓u59_153, ↓u59_156, ↓u59_159, ↓u59_161, ↓u59_162, ↓u59_164, ↓u59_167, ↓u59_168, ↓u59_171, ↓u59_173, ↓u59_174, ↓u59_175, ↓u59_178, ↓u59_180, ↓m_o, ↓c_knowsGroup, ↓c_knowsTeacher, ↓s_isIn, ↓c_v_some, nG_eq hI, nT_eq hI, x2, t2, p2, q2, l2, n10, ↓nf0, ↓sf5 z7, e1, show ((20 : Int32) < 20) = False by decide, show ((20 : Int32) ≤ 20) = True by decide, if_true, if_false]
            · have hc : nC s < 20 := by omega
              have c1 : nI (nC s) < 20 := nI_lt (b := 20) hc (by decide)
              have c2 : ¬ (20 : Int32) ≤ nI (nC s) := nI_ge (b := 20) hc (by decide)
              have hi := i2_course hJ (q := q) hc x1 p1 t1 l0 l1
              unfold newF at hi
              refine stp_a (u := nI (nC s)) (nI_nn (by omega)) hi (fun g fs n h e9 Q => ?_)
              subst e9
              simp only [↓en59, ↓u59_0, ↓u59_1, ↓u59_2, ↓u59_5, ↓u59_16, ↓u59_8, ↓u59_17, ↓u59_9, ↓u59_10, ↓u59_13, ↓u59_18, ↓u59_19, ↓u59_20, ↓u59_21, ↓u59_24, ↓u59_49, ↓u59_27, ↓u59_51, ↓u59_29, ↓u59_30, ↓u59_32, ↓u59_35, ↓u59_38, ↓u59_40, ↓u59_41, ↓u59_43, ↓u59_46, ↓u59_52, ↓u59_53, ↓u59_56, ↓u59_59, ↓u59_61, ↓u59_67, ↓u59_64, ↓u59_68, ↓u59_66, ↓u59_71, ↓u59_72, ↓u59_75, ↓u59_78, ↓u59_80, ↓u59_81, ↓u59_84, ↓u59_87, ↓u59_89, ↓u59_90, ↓u59_91, ↓u59_94, ↓u59_95, ↓u59_98, ↓u59_101, ↓u59_103, ↓u59_104, ↓u59_106, ↓u59_109, ↓u59_110, ↓u59_113, ↓u59_116, ↓u59_118, ↓u59_119, ↓u59_120, ↓u59_123, ↓u59_124, ↓u59_127, ↓u59_130, ↓u59_132, ↓u59_133, ↓u59_134, ↓u59_137, ↓u59_138, ↓u59_141, ↓u59_144, ↓u59_146, ↓u59_147, ↓u59_149, ↓u59_152, ↓u59_153, ↓u59_156, ↓u59_159, ↓u59_161, ↓u59_162, ↓u59_164, ↓u59_167, ↓u59_168, ↓u59_171, ↓u59_173, ↓u59_174, ↓u59_175, ↓u59_178, ↓u59_180, ↓m_o, ↓c_knowsGroup, ↓c_knowsTeacher, ↓s_isIn, ↓c_v_some, nG_eq hI, nT_eq hI, x2, t2, p2, q2, l2, n10, if_false, ↓nf0, ↓sf5 z7, ↓sf8 z7, nC_eq hI, c1, c2, if_true, ↓n_o2 z7, ↓c_rem h, ↓c_v_none, remG_0, w_cf0 z7 hc, w_cf1 z7 hc, w_cf2 z7 hc, w_cf3 z7 hc, w_cf4 z7 hc, w_cf5 z7 hc, stS_at, stS_twice, sN_at, sN_tw, sp5 z7, nI_1]
          · refine stp_q (u := -2) (by decide) (fun g fs n h e9 Q => ?_)
            subst e9
            simp only [↓en59, ↓u59_0, ↓u59_1, ↓u59_2, ↓u59_5, ↓u59_16, ↓u59_8, ↓u59_17, ↓u59_9, ↓u59_10, ↓u59_13, ↓u59_18, ↓u59_19, ↓u59_20, ↓u59_21, ↓u59_24, ↓u59_49, ↓u59_27, ↓u59_51, ↓u59_29, ↓u59_30, ↓u59_32, ↓u59_35, ↓u59_38, ↓u59_40, ↓u59_41, ↓u59_43, ↓u59_46, ↓u59_52, ↓u59_53, ↓u59_56, ↓u59_59, ↓u59_61, ↓u59_67, ↓u59_64, ↓u59_68, ↓u59_66, ↓u59_71, ↓u59_72, ↓u59_75, ↓u59_78, ↓u59_80, ↓u59_81, ↓u59_84, ↓u59_87, ↓u59_89, ↓u59_90, ↓u59_91, ↓u59_94, ↓u59_95, ↓u59_98, ↓u59_101, ↓u59_103, ↓u59_104, ↓u59_106, ↓u59_109, ↓u59_110, ↓u59_113, ↓u59_116, ↓u59_118, ↓u59_119, ↓u59_120, ↓u59_123, ↓u59_124, ↓u59_127, ↓u59_130, ↓u59_132, ↓u59_133, ↓u59_134, ↓u59_137, ↓u59_138, ↓u59_141, ↓u59_144, ↓u59_146, ↓u59_147, ↓u59_149, ↓u59_152, ↓u59_153, ↓u59_156, ↓u59_159, ↓u59_161, ↓u59_162, ↓u59_164, ↓u59_167, ↓u59_168, ↓u59_171, ↓u59_173, ↓u59_174, ↓u59_175, ↓u59_178, ↓u59_180, ↓m_o, ↓c_knowsGroup, ↓c_knowsTeacher, ↓s_isIn, ↓c_v_some, nG_eq hI, nT_eq hI, x2, t2, p2, q2, l2, n10, n00, if_true, if_false]
        · refine stp_q (u := -2) (by decide) (fun g fs n h e9 Q => ?_)
          subst e9
          simp only [↓en59, ↓u59_0, ↓u59_1, ↓u59_2, ↓u59_5, ↓u59_16, ↓u59_8, ↓u59_17, ↓u59_9, ↓u59_10, ↓u59_13, ↓u59_18, ↓u59_19, ↓u59_20, ↓u59_21, ↓u59_24, ↓u59_49, ↓u59_27, ↓u59_51, ↓u59_29, ↓u59_30, ↓u59_32, ↓u59_35, ↓u59_38, ↓u59_40, ↓u59_41, ↓u59_43, ↓u59_46, ↓u59_52, ↓u59_53, ↓u59_56, ↓u59_59, ↓u59_61, ↓u59_67, ↓u59_64, ↓u59_68, ↓u59_66, ↓u59_71, ↓u59_72, ↓u59_75, ↓u59_78, ↓u59_80, ↓u59_81, ↓u59_84, ↓u59_87, ↓u59_89, ↓u59_90, ↓u59_91, ↓u59_94, ↓u59_95, ↓u59_98, ↓u59_101, ↓u59_103, ↓u59_104, ↓u59_106, ↓u59_109, ↓u59_110, ↓u59_113, ↓u59_116, ↓u59_118, ↓u59_119, ↓u59_120, ↓u59_123, ↓u59_124, ↓u59_127, ↓u59_130, ↓u59_132, ↓u59_133, ↓u59_134, ↓u59_137, ↓u59_138, ↓u59_141, ↓u59_144, ↓u59_146, ↓u59_147, ↓u59_149, ↓u59_152, ↓u59_153, ↓u59_156, ↓u59_159, ↓u59_161, ↓u59_162, ↓u59_164, ↓u59_167, ↓u59_168, ↓u59_171, ↓u59_173, ↓u59_174, ↓u59_175, ↓u59_178, ↓u59_180, ↓m_o, ↓c_knowsGroup, ↓c_knowsTeacher, ↓s_isIn, ↓c_v_some, nG_eq hI, nT_eq hI, x2, t2, p2, q2, n10, n00, if_true, if_false]
      · refine stp_q (u := -2) (by decide) (fun g fs n h e9 Q => ?_)
        subst e9
        simp only [↓en59, ↓u59_0, ↓u59_1, ↓u59_2, ↓u59_5, ↓u59_16, ↓u59_8, ↓u59_17, ↓u59_9, ↓u59_10, ↓u59_13, ↓u59_18, ↓u59_19, ↓u59_20, ↓u59_21, ↓u59_24, ↓u59_49, ↓u59_27, ↓u59_51, ↓u59_29, ↓u59_30, ↓u59_32, ↓u59_35, ↓u59_38, ↓u59_40, ↓u59_41, ↓u59_43, ↓u59_46, ↓u59_52, ↓u59_53, ↓u59_56, ↓u59_59, ↓u59_61, ↓u59_67, ↓u59_64, ↓u59_68, ↓u59_66, ↓u59_71, ↓u59_72, ↓u59_75, ↓u59_78, ↓u59_80, ↓u59_81, ↓u59_84, ↓u59_87, ↓u59_89, ↓u59_90, ↓u59_91, ↓u59_94, ↓u59_95, ↓u59_98, ↓u59_101, ↓u59_103, ↓u59_104, ↓u59_106, ↓u59_109, ↓u59_110, ↓u59_113, ↓u59_116, ↓u59_118, ↓u59_119, ↓u59_120, ↓u59_123, ↓u59_124, ↓u59_127, ↓u59_130, ↓u59_132, ↓u59_133, ↓u59_134, ↓u59_137, ↓u59_138, ↓u59_141, ↓u59_144, ↓u59_146, ↓u59_147, ↓u59_149, ↓u59_152, ↓u59_153, ↓u59_156, ↓u59_159, ↓u59_161, ↓u59_162, ↓u59_164, ↓u59_167, ↓u59_168, ↓u59_171, ↓u59_173, ↓u59_174, ↓u59_175, ↓u59_178, ↓u59_180, ↓m_o, ↓c_knowsGroup, ↓c_knowsTeacher, ↓s_isIn, ↓c_v_some, nG_eq hI, nT_eq hI, x2, t2, p2, n10, n00, if_true, if_false]
    · refine stp_q (u := -1) (by decide) (fun g fs n h e9 Q => ?_)
      subst e9
      simp only [↓en59, ↓u59_0, ↓u59_1, ↓u59_2, ↓u59_5, ↓u59_16, ↓u59_8, ↓u59_17, ↓u59_9, ↓u59_10, ↓u59_13, ↓u59_18, ↓u59_19, ↓u59_20, ↓u59_21, ↓u59_24, ↓u59_49, ↓u59_27, ↓u59_51, ↓u59_29, ↓u59_30, ↓u59_32, ↓u59_35, ↓u59_38, ↓u59_40, ↓u59_41, ↓u59_43, ↓u59_46, ↓u59_52, ↓u59_53, ↓u59_56, ↓u59_59, ↓u59_61, ↓u59_67, ↓u59_64, ↓u59_68, ↓u59_66, ↓u59_71, ↓u59_72, ↓u59_75, ↓u59_78, ↓u59_80, ↓u59_81, ↓u59_84, ↓u59_87, ↓u59_89, ↓u59_90, ↓u59_91, ↓u59_94, ↓u59_95, ↓u59_98, ↓u59_101, ↓u59_103, ↓u59_104, ↓u59_106, ↓u59_109, ↓u59_110, ↓u59_113, ↓u59_116, ↓u59_118, ↓u59_119, ↓u59_120, ↓u59_123, ↓u59_124, ↓u59_127, ↓u59_130, ↓u59_132, ↓u59_133, ↓u59_134, ↓u59_137, ↓u59_138, ↓u59_141, ↓u59_144, ↓u59_146, ↓u59_147, ↓u59_149, ↓u59_152, ↓u59_153, ↓u59_156, ↓u59_159, ↓u59_161, ↓u59_162, ↓u59_164, ↓u59_167, ↓u59_168, ↓u59_171, ↓u59_173, ↓u59_174, ↓u59_175, ↓u59_178, ↓u59_180, ↓m_o, ↓c_knowsGroup, ↓c_knowsTeacher, ↓s_isIn, ↓c_v_some, nG_eq hI, nT_eq hI, x2, t2, n10, n00, if_true, if_false]
  · refine stp_q (u := -1) (by decide) (fun g fs n h e9 Q => ?_)
    subst e9
    simp only [↓en59, ↓u59_0, ↓u59_1, ↓u59_2, ↓u59_5, ↓u59_16, ↓u59_8, ↓u59_17, ↓u59_9, ↓u59_10, ↓u59_13, ↓u59_18, ↓u59_19, ↓u59_20, ↓u59_21, ↓u59_24, ↓u59_49, ↓u59_27, ↓u59_51, ↓u59_29, ↓u59_30, ↓u59_32, ↓u59_35, ↓u59_38, ↓u59_40, ↓u59_41, ↓u59_43, ↓u59_46, ↓u59_52, ↓u59_53, ↓u59_56, ↓u59_59, ↓u59_61, ↓u59_67, ↓u59_64, ↓u59_68, ↓u59_66, ↓u59_71, ↓u59_72, ↓u59_75, ↓u59_78, ↓u59_80, ↓u59_81, ↓u59_84, ↓u59_87, ↓u59_89, ↓u59_90, ↓u59_91, ↓u59_94, ↓u59_95, ↓u59_98, ↓u59_101, ↓u59_103, ↓u59_104, ↓u59_106, ↓u59_109, ↓u59_110, ↓u59_113, ↓u59_116, ↓u59_118, ↓u59_119, ↓u59_120, ↓u59_123, ↓u59_124, ↓u59_127, ↓u59_130, ↓u59_132, ↓u59_133, ↓u59_134, ↓u59_137, ↓u59_138, ↓u59_141, ↓u59_144, ↓u59_146, ↓u59_147, ↓u59_149, ↓u59_152, ↓u59_153, ↓u59_156, ↓u59_159, ↓u59_161, ↓u59_162, ↓u59_164, ↓u59_167, ↓u59_168, ↓u59_171, ↓u59_173, ↓u59_174, ↓u59_175, ↓u59_178, ↓u59_180, ↓m_o, ↓c_knowsGroup, ↓c_knowsTeacher, ↓s_isIn, ↓c_v_some, nG_eq hI, nT_eq hI, x2, n00, if_true]
theorem p_move (hJ : inv2 s) {v x y z : Int32} : Stq sc 64 [.ref 0, .int v, .int x, .int y, .int z] s := by
  have hI := hJ.1
  have h48 := (sl48 hI).1
  have h20 := nC20 hI
  have h6 := nR6 hI
  rcases klS_1 (v := v) (m := x) hI with e | ⟨e, c, m, r, rfl, rfl, c1, m1', r1', hc, hx, hrm⟩
  · refine stp_q (u := -1) (by decide) (fun g fs n h e9 Q => ?_)
    subst e9
    simp only [↓en64, ↓u64_0, ↓u64_1, ↓u64_4, ↓u64_5, ↓u64_6, ↓u64_9, ↓u64_35, ↓u64_12, ↓u64_36, ↓u64_13, ↓u64_16, ↓u64_17, ↓u64_20, ↓u64_23, ↓u64_24, ↓u64_27, ↓u64_29, ↓u64_32, ↓u64_37, ↓u64_38, ↓u64_41, ↓u64_42, ↓u64_43, ↓u64_46, ↓u64_48, ↓u64_49, ↓u64_52, ↓u64_53, ↓u64_56, ↓u64_59, ↓u64_60, ↓u64_63, ↓u64_64, ↓u64_65, ↓u64_67, ↓u64_68, ↓u64_71, ↓u64_72, ↓u64_75, ↓u64_76, ↓u64_77, ↓u64_79, ↓u64_82, ↓u64_88, ↓u64_85, ↓u64_89, ↓u64_87, ↓u64_90, ↓u64_103, ↓u64_93, ↓u64_104, ↓u64_95, ↓u64_107, ↓u64_97, ↓u64_108, ↓u64_100, ↓u64_109, ↓u64_102, ↓u64_111, ↓u64_112, ↓u64_115, ↓u64_116, ↓u64_119, ↓u64_121, ↓nf0, ↓s_o z7, ↓s_knowsLesson z7 hI.2.1, ↓c_v_some, e, n00, if_true]
  · rcases ii_cases (v := y) (n := slS s) (by omega) with ⟨t, t1, rfl, t2⟩ | ⟨-, t2⟩
    · rcases ii_cases (v := z) (n := nR s) (by omega) with ⟨o, o1, rfl, o2⟩ | ⟨-, o2⟩
      · have hi := i2_out hJ (show r < 6 by omega) hx
        have b2 : c < nC (setL s c m r false) := by rw [setL_nC]; exact c1
        have b3 : t < slS (setL s c m r false) := by rw [setL_sl]; exact t1
        have b4 : o < nR (setL s c m r false) := by rw [setL_nR]; exact o1
        have et : (nI t = nI m) = (t = m) := propext (nI_eq (by omega) (by omega))
        have eo : (nI o = nI r) = (o = r) := propext (nI_eq (by omega) (by omega))
        generalize hs1 : setL s c m r false = s1 at hi b2 b3 b4
        by_cases hf0 : fstS s1 c t o = 0
        · by_cases same : t = m ∧ o = r
          · obtain ⟨rfl, rfl⟩ := same
            refine stp_qt (u := -5) (by decide) hi.1.1 (fun g fs n h e9 Q => ?_)
            subst e9
            have hcp := fun Q => s_copyFrom (sc := sc) (Q := Q) (g := g) (j := 1) (i := 0) (by decide) z7 (by decide) (h.1 0 z7) (h.1 1 (by decide))
            have hst := fun Q => s_set0 (sc := sc) (g := stS g 1 (g.1 0)) (Q := Q) (j := 1) (m := t) (r := o) (c := c) (by decide) (by rw [stS_at]; exact hI) (by rw [stS_at]; exact c1) (by omega)
            rw [stS_at, stS_twice, hs1] at hst
            have hro : ∀ Q, ev sc 35 [.ref (bs 0), .int (nI c), .int (nI t)] (Wd g) Q = Q (some (.int (nI o))) (Wd g) := fun Q => by
              rw [s_roomOf z7 hI.2.1 (show c < 20 by omega) (show t < 64 by omega), roomS_rm hI, hrm]
              rfl
            have hfr := fun Q => s_firstReason (sc := sc) (Q := Q) (g := stS g 1 s1) (j := 1) (c := c) (m := t) (r := o) (by decide) (by rw [stS_at]; exact hi.1.2.1) (by rw [stS_at]; exact hi.1.2.2.1) (by rw [stS_at]; exact b2) (by rw [stS_at]; exact b3) (by omega)
            rw [stS_at] at hfr
            simp only [↓en64, ↓u64_0, ↓u64_1, ↓u64_4, ↓u64_5, ↓u64_6, ↓u64_9, ↓u64_35, ↓u64_12, ↓u64_36, ↓u64_13, ↓u64_16, ↓u64_17, ↓u64_20, ↓u64_23, ↓u64_24, ↓u64_27, ↓u64_29, ↓u64_32, ↓u64_37, ↓u64_38, ↓u64_41, ↓u64_42, ↓u64_43, ↓u64_46, ↓u64_48, ↓u64_49, ↓u64_52, ↓u64_53, ↓u64_56, ↓u64_59, ↓u64_60, ↓u64_63, ↓u64_64, ↓u64_65, ↓u64_67, ↓u64_68, ↓u64_71, ↓u64_72, ↓u64_75, ↓u64_76, ↓u64_77, ↓u64_79, ↓u64_82, ↓u64_88, ↓u64_85, ↓u64_89, ↓u64_87, ↓u64_90, ↓u64_103, ↓u64_93, ↓u64_104, ↓u64_95, ↓u64_107, ↓u64_97, ↓u64_108, ↓u64_100, ↓u64_109, ↓u64_102, ↓u64_111, ↓u64_112, ↓u64_115, ↓u64_116, ↓u64_119, ↓u64_121, ↓nf0, ↓nf1, ↓s_o z7, ↓s_o (show 1 < 7 by decide), ↓s_knowsLesson z7 hI.2.1, ↓s_knowsSlot z7, ↓s_knowsRoom z7, ↓c_v_some, ↓c_v_none, e, sl_eq hI, nR_eq hI, t2, o2, n10, if_false, if_true, ↓hro, ↓hcp, ↓hst, ↓hfr, hf0, et, eo]
          · have hi2 := i2_in hi b2 b4 b3 hf0
            generalize hs2 : setL s1 c t o true = s2 at hi2
            refine stp_at (u := nI r) (nI_nn (by omega)) hi2 (fun g fs n h e9 Q => ?_)
            subst e9
            have hcp := fun Q => s_copyFrom (sc := sc) (Q := Q) (g := g) (j := 1) (i := 0) (by decide) z7 (by decide) (h.1 0 z7) (h.1 1 (by decide))
            have hst := fun Q => s_set0 (sc := sc) (g := stS g 1 (g.1 0)) (Q := Q) (j := 1) (m := m) (r := r) (c := c) (by decide) (by rw [stS_at]; exact hI) (by rw [stS_at]; exact c1) (by omega)
            rw [stS_at, stS_twice, hs1] at hst
            have hro : ∀ Q, ev sc 35 [.ref (bs 0), .int (nI c), .int (nI m)] (Wd g) Q = Q (some (.int (nI r))) (Wd g) := fun Q => by
              rw [s_roomOf z7 hI.2.1 (show c < 20 by omega) (show m < 64 by omega), roomS_rm hI, hrm]
              rfl
            have hfr := fun Q => s_firstReason (sc := sc) (Q := Q) (g := stS g 1 s1) (j := 1) (c := c) (m := t) (r := o) (by decide) (by rw [stS_at]; exact hi.1.2.1) (by rw [stS_at]; exact hi.1.2.2.1) (by rw [stS_at]; exact b2) (by rw [stS_at]; exact b3) (by omega)
            rw [stS_at] at hfr
            have hst2 := fun Q => s_set1 (sc := sc) (g := stS g 1 s1) (Q := Q) (j := 1) (m := t) (r := o) (c := c) (by decide) (by rw [stS_at]; exact hi.1) (by rw [stS_at]; exact b2) (by omega)
            rw [stS_at, stS_twice, hs2] at hst2
            have had := fun Q => c_adopt (sc := sc) (Q := Q) (Rw_trial h hi2.1.1)
            rw [stS_at] at had
            simp only [↓en64, ↓u64_0, ↓u64_1, ↓u64_4, ↓u64_5, ↓u64_6, ↓u64_9, ↓u64_35, ↓u64_12, ↓u64_36, ↓u64_13, ↓u64_16, ↓u64_17, ↓u64_20, ↓u64_23, ↓u64_24, ↓u64_27, ↓u64_29, ↓u64_32, ↓u64_37, ↓u64_38, ↓u64_41, ↓u64_42, ↓u64_43, ↓u64_46, ↓u64_48, ↓u64_49, ↓u64_52, ↓u64_53, ↓u64_56, ↓u64_59, ↓u64_60, ↓u64_63, ↓u64_64, ↓u64_65, ↓u64_67, ↓u64_68, ↓u64_71, ↓u64_72, ↓u64_75, ↓u64_76, ↓u64_77, ↓u64_79, ↓u64_82, ↓u64_88, ↓u64_85, ↓u64_89, ↓u64_87, ↓u64_90, ↓u64_103, ↓u64_93, ↓u64_104, ↓u64_95, ↓u64_107, ↓u64_97, ↓u64_108, ↓u64_100, ↓u64_109, ↓u64_102, ↓u64_111, ↓u64_112, ↓u64_115, ↓u64_116, ↓u64_119, ↓u64_121, ↓m_o, ↓nf0, ↓nf1, ↓s_o z7, ↓s_o (show 1 < 7 by decide), ↓s_knowsLesson z7 hI.2.1, ↓s_knowsSlot z7, ↓s_knowsRoom z7, ↓c_v_some, ↓c_v_none, e, sl_eq hI, nR_eq hI, t2, o2, n10, if_false, if_true, ↓hro, ↓hcp, ↓hst, ↓hfr, hf0, et, eo, ↓hst2, ↓had]
            by_cases q1 : t = m
            · rw [if_pos q1, if_neg (fun q2 => same ⟨q1, q2⟩)]
            · rw [if_neg q1]
        · refine stp_qt (u := -4) (by decide) hi.1.1 (fun g fs n h e9 Q => ?_)
          subst e9
          have hcp := fun Q => s_copyFrom (sc := sc) (Q := Q) (g := g) (j := 1) (i := 0) (by decide) z7 (by decide) (h.1 0 z7) (h.1 1 (by decide))
          have hst := fun Q => s_set0 (sc := sc) (g := stS g 1 (g.1 0)) (Q := Q) (j := 1) (m := m) (r := r) (c := c) (by decide) (by rw [stS_at]; exact hI) (by rw [stS_at]; exact c1) (by omega)
          rw [stS_at, stS_twice, hs1] at hst
          have hro : ∀ Q, ev sc 35 [.ref (bs 0), .int (nI c), .int (nI m)] (Wd g) Q = Q (some (.int (nI r))) (Wd g) := fun Q => by
            rw [s_roomOf z7 hI.2.1 (show c < 20 by omega) (show m < 64 by omega), roomS_rm hI, hrm]
            rfl
          have hfr := fun Q => s_firstReason (sc := sc) (Q := Q) (g := stS g 1 s1) (j := 1) (c := c) (m := t) (r := o) (by decide) (by rw [stS_at]; exact hi.1.2.1) (by rw [stS_at]; exact hi.1.2.2.1) (by rw [stS_at]; exact b2) (by rw [stS_at]; exact b3) (by omega)
          rw [stS_at] at hfr
          simp only [↓en64, ↓u64_0, ↓u64_1, ↓u64_4, ↓u64_5, ↓u64_6, ↓u64_9, ↓u64_35, ↓u64_12, ↓u64_36, ↓u64_13, ↓u64_16, ↓u64_17, ↓u64_20, ↓u64_23, ↓u64_24, ↓u64_27, ↓u64_29, ↓u64_32, ↓u64_37, ↓u64_38, ↓u64_41, ↓u64_42, ↓u64_43, ↓u64_46, ↓u64_48, ↓u64_49, ↓u64_52, ↓u64_53, ↓u64_56, ↓u64_59, ↓u64_60, ↓u64_63, ↓u64_64, ↓u64_65, ↓u64_67, ↓u64_68, ↓u64_71, ↓u64_72, ↓u64_75, ↓u64_76, ↓u64_77, ↓u64_79, ↓u64_82, ↓u64_88, ↓u64_85, ↓u64_89, ↓u64_87, ↓u64_90, ↓u64_103, ↓u64_93, ↓u64_104, ↓u64_95, ↓u64_107, ↓u64_97, ↓u64_108, ↓u64_100, ↓u64_109, ↓u64_102, ↓u64_111, ↓u64_112, ↓u64_115, ↓u64_116, ↓u64_119, ↓u64_121, ↓nf0, ↓nf1, ↓s_o z7, ↓s_o (show 1 < 7 by decide), ↓s_knowsLesson z7 hI.2.1, ↓s_knowsSlot z7, ↓s_knowsRoom z7, ↓c_v_some, ↓c_v_none, e, sl_eq hI, nR_eq hI, t2, o2, n10, if_false, if_true, ↓hro, ↓hcp, ↓hst, ↓hfr, hf0]
      · refine stp_q (u := -1) (by decide) (fun g fs n h e9 Q => ?_)
        subst e9
        simp only [↓en64, ↓u64_0, ↓u64_1, ↓u64_4, ↓u64_5, ↓u64_6, ↓u64_9, ↓u64_35, ↓u64_12, ↓u64_36, ↓u64_13, ↓u64_16, ↓u64_17, ↓u64_20, ↓u64_23, ↓u64_24, ↓u64_27, ↓u64_29, ↓u64_32, ↓u64_37, ↓u64_38, ↓u64_41, ↓u64_42, ↓u64_43, ↓u64_46, ↓u64_48, ↓u64_49, ↓u64_52, ↓u64_53, ↓u64_56, ↓u64_59, ↓u64_60, ↓u64_63, ↓u64_64, ↓u64_65, ↓u64_67, ↓u64_68, ↓u64_71, ↓u64_72, ↓u64_75, ↓u64_76, ↓u64_77, ↓u64_79, ↓u64_82, ↓u64_88, ↓u64_85, ↓u64_89, ↓u64_87, ↓u64_90, ↓u64_103, ↓u64_93, ↓u64_104, ↓u64_95, ↓u64_107, ↓u64_97, ↓u64_108, ↓u64_100, ↓u64_109, ↓u64_102, ↓u64_111, ↓u64_112, ↓u64_115, ↓u64_116, ↓u64_119, ↓u64_121, ↓nf0, ↓s_o z7, ↓s_knowsLesson z7 hI.2.1, ↓s_knowsSlot z7, ↓s_knowsRoom z7, ↓c_v_some, e, sl_eq hI, nR_eq hI, t2, o2, n10, n00, if_false, if_true]
    · refine stp_q (u := -1) (by decide) (fun g fs n h e9 Q => ?_)
      subst e9
      simp only [↓en64, ↓u64_0, ↓u64_1, ↓u64_4, ↓u64_5, ↓u64_6, ↓u64_9, ↓u64_35, ↓u64_12, ↓u64_36, ↓u64_13, ↓u64_16, ↓u64_17, ↓u64_20, ↓u64_23, ↓u64_24, ↓u64_27, ↓u64_29, ↓u64_32, ↓u64_37, ↓u64_38, ↓u64_41, ↓u64_42, ↓u64_43, ↓u64_46, ↓u64_48, ↓u64_49, ↓u64_52, ↓u64_53, ↓u64_56, ↓u64_59, ↓u64_60, ↓u64_63, ↓u64_64, ↓u64_65, ↓u64_67, ↓u64_68, ↓u64_71, ↓u64_72, ↓u64_75, ↓u64_76, ↓u64_77, ↓u64_79, ↓u64_82, ↓u64_88, ↓u64_85, ↓u64_89, ↓u64_87, ↓u64_90, ↓u64_103, ↓u64_93, ↓u64_104, ↓u64_95, ↓u64_107, ↓u64_97, ↓u64_108, ↓u64_100, ↓u64_109, ↓u64_102, ↓u64_111, ↓u64_112, ↓u64_115, ↓u64_116, ↓u64_119, ↓u64_121, ↓nf0, ↓s_o z7, ↓s_knowsLesson z7 hI.2.1, ↓s_knowsSlot z7, ↓c_v_some, e, sl_eq hI, t2, n10, n00, if_false, if_true]
end
