/-! ONE CALL: swap, fill -/
section
variable {sc : Nat × (Nat → Int32)} {s : SV} {g : SG} {fs n j : Nat} {Q : Option Value → ri_W → Prop}
theorem hX_out {s : SV} {c m r c' m' r' : Nat} {b : Bool} (hm : m < 64) (hr : r < 6) (hr' : r' < 6) (h : hX s c' r' m' = true) (hne : ¬ (m' = m)) : hX (setL s c m r b) c' r' m' = true := by
  rw [setL_X hm hr hr', if_neg (fun e => hne e.2.2)]
  exact h
theorem cls_lesson (hj : j < 7) (hI : inv (g.1 j)) {c m r : Nat} (hx : hX (g.1 j) c r m = true) (hr : r < 6) : ∀ Q, ev sc 35 [.ref (bs j), .int (nI c), .int (nI m)] (Wd g) Q = Q (some (.int (nI r))) (Wd g) := fun Q => by
  have h1 := hI.2.2.2.2.1.1 c r m hr hx
  have h20 := nC20 hI
  have h48 := (sl48 hI).1
  rw [s_roomOf hj hI.2.1 (by omega) (by omega), roomS_rm hI, (rm_iff hI.2.2.2.2.1.2.1).mpr ⟨hr, hx⟩]
  rfl
theorem p_swap (hJ : inv2 s) {v x y z : Int32} : Stq sc 65 [.ref 0, .int v, .int x, .int y, .int z] s := by
  have hI := hJ.1
  have h48 := (sl48 hI).1
  have h20 := nC20 hI
  have h6 := nR6 hI
  rcases klS_1 (v := v) (m := x) hI with e | ⟨e, c, m, r, rfl, rfl, c1, m1', r1', hc, hx, hrm⟩
  · refine stp_q (u := -1) (by decide) (fun g fs n h e9 Q => ?_)
    subst e9
    simp only [↓en65, ↓u65_0, ↓u65_1, ↓u65_4, ↓u65_5, ↓u65_6, ↓u65_9, ↓u65_25, ↓u65_12, ↓u65_26, ↓u65_13, ↓u65_16, ↓u65_17, ↓u65_19, ↓u65_22, ↓u65_27, ↓u65_28, ↓u65_30, ↓u65_36, ↓u65_33, ↓u65_37, ↓u65_35, ↓u65_40, ↓u65_41, ↓u65_42, ↓u65_45, ↓u65_47, ↓u65_48, ↓u65_51, ↓u65_52, ↓u65_54, ↓u65_57, ↓u65_59, ↓u65_60, ↓u65_63, ↓u65_64, ↓u65_67, ↓u65_70, ↓u65_71, ↓u65_74, ↓u65_75, ↓u65_76, ↓u65_78, ↓u65_79, ↓u65_82, ↓u65_83, ↓u65_86, ↓u65_87, ↓u65_89, ↓u65_91, ↓u65_92, ↓u65_95, ↓u65_96, ↓u65_99, ↓u65_100, ↓u65_102, ↓u65_104, ↓u65_107, ↓u65_113, ↓u65_110, ↓u65_114, ↓u65_112, ↓u65_117, ↓u65_118, ↓u65_120, ↓u65_122, ↓u65_123, ↓u65_126, ↓u65_127, ↓u65_130, ↓u65_131, ↓u65_132, ↓u65_134, ↓u65_137, ↓u65_143, ↓u65_140, ↓u65_144, ↓u65_142, ↓u65_147, ↓u65_148, ↓u65_149, ↓u65_151, ↓u65_152, ↓u65_155, ↓u65_156, ↓u65_159, ↓u65_160, ↓u65_163, ↓u65_164, ↓u65_167, ↓u65_168, ↓u65_171, ↓u65_173, ↓u65_176, ↓u65_177, ↓nf0, ↓s_o z7, ↓s_knowsLesson z7 hI.2.1, ↓c_v_some, e, n00, if_true]
  · rcases klS_1 (v := y) (m := z) hI with e' | ⟨e', d, t, q, rfl, rfl, d1, t1, q1, hd, hy, hrm'⟩
    · refine stp_q (u := -1) (by decide) (fun g fs n h e9 Q => ?_)
      subst e9
      simp only [↓en65, ↓u65_0, ↓u65_1, ↓u65_4, ↓u65_5, ↓u65_6, ↓u65_9, ↓u65_25, ↓u65_12, ↓u65_26, ↓u65_13, ↓u65_16, ↓u65_17, ↓u65_19, ↓u65_22, ↓u65_27, ↓u65_28, ↓u65_30, ↓u65_36, ↓u65_33, ↓u65_37, ↓u65_35, ↓u65_40, ↓u65_41, ↓u65_42, ↓u65_45, ↓u65_47, ↓u65_48, ↓u65_51, ↓u65_52, ↓u65_54, ↓u65_57, ↓u65_59, ↓u65_60, ↓u65_63, ↓u65_64, ↓u65_67, ↓u65_70, ↓u65_71, ↓u65_74, ↓u65_75, ↓u65_76, ↓u65_78, ↓u65_79, ↓u65_82, ↓u65_83, ↓u65_86, ↓u65_87, ↓u65_89, ↓u65_91, ↓u65_92, ↓u65_95, ↓u65_96, ↓u65_99, ↓u65_100, ↓u65_102, ↓u65_104, ↓u65_107, ↓u65_113, ↓u65_110, ↓u65_114, ↓u65_112, ↓u65_117, ↓u65_118, ↓u65_120, ↓u65_122, ↓u65_123, ↓u65_126, ↓u65_127, ↓u65_130, ↓u65_131, ↓u65_132, ↓u65_134, ↓u65_137, ↓u65_143, ↓u65_140, ↓u65_144, ↓u65_142, ↓u65_147, ↓u65_148, ↓u65_149, ↓u65_151, ↓u65_152, ↓u65_155, ↓u65_156, ↓u65_159, ↓u65_160, ↓u65_163, ↓u65_164, ↓u65_167, ↓u65_168, ↓u65_171, ↓u65_173, ↓u65_176, ↓u65_177, ↓nf0, ↓s_o z7, ↓s_knowsLesson z7 hI.2.1, ↓c_v_some, e, e', n10, n00, if_true, if_false]
    · by_cases emt : m = t
      · subst emt
        have eq1 : (nI m = nI m) = True := eq_true rfl
        refine stp_q (u := -5) (by decide) (fun g fs n h e9 Q => ?_)
        subst e9
        simp only [↓en65, ↓u65_0, ↓u65_1, ↓u65_4, ↓u65_5, ↓u65_6, ↓u65_9, ↓u65_25, ↓u65_12, ↓u65_26, ↓u65_13, ↓u65_16, ↓u65_17, ↓u65_19, ↓u65_22, ↓u65_27, ↓u65_28, ↓u65_30, ↓u65_36, ↓u65_33, ↓u65_37, ↓u65_35, ↓u65_40, ↓u65_41, ↓u65_42, ↓u65_45, ↓u65_47, ↓u65_48, ↓u65_51, ↓u65_52, ↓u65_54, ↓u65_57, ↓u65_59, ↓u65_60, ↓u65_63, ↓u65_64, ↓u65_67, ↓u65_70, ↓u65_71, ↓u65_74, ↓u65_75, ↓u65_76, ↓u65_78, ↓u65_79, ↓u65_82, ↓u65_83, ↓u65_86, ↓u65_87, ↓u65_89, ↓u65_91, ↓u65_92, ↓u65_95, ↓u65_96, ↓u65_99, ↓u65_100, ↓u65_102, ↓u65_104, ↓u65_107, ↓u65_113, ↓u65_110, ↓u65_114, ↓u65_112, ↓u65_117, ↓u65_118, ↓u65_120, ↓u65_122, ↓u65_123, ↓u65_126, ↓u65_127, ↓u65_130, ↓u65_131, ↓u65_132, ↓u65_134, ↓u65_137, ↓u65_143, ↓u65_140, ↓u65_144, ↓u65_142, ↓u65_147, ↓u65_148, ↓u65_149, ↓u65_151, ↓u65_152, ↓u65_155, ↓u65_156, ↓u65_159, ↓u65_160, ↓u65_163, ↓u65_164, ↓u65_167, ↓u65_168, ↓u65_171, ↓u65_173, ↓u65_176, ↓u65_177, ↓nf0, ↓s_o z7, ↓s_knowsLesson z7 hI.2.1, ↓c_v_some, e, e', n10, eq1, if_true, if_false]
      · have eq1 : ¬ nI m = nI t := fun e2 => emt ((nI_eq (by omega) (by omega)).mp e2)
        have hr6 : r < 6 := by omega
        have hq6 : q < 6 := by omega
        have hm6 : m < 64 := by omega
        have ht6 : t < 64 := by omega
        have hi1 := i2_out hJ hr6 hx
        have hy1 := hX_out (c := c) (b := false) hm6 hr6 hq6 hy (fun e => emt e.symm)
        have hi2 := i2_out hi1 hq6 hy1
        have d1' : d < nC (setL s c m r false) := by rw [setL_nC]; exact d1
        have b1 : c < nC (setL (setL s c m r false) d t q false) := by rw [setL_nC, setL_nC]; exact c1
        have b2 : t < slS (setL (setL s c m r false) d t q false) := by rw [setL_sl, setL_sl]; exact t1
        have b3 : r < nR (setL (setL s c m r false) d t q false) := by rw [setL_nR, setL_nR]; exact r1'
        have b4 : d < nC (setL (setL s c m r false) d t q false) := by rw [setL_nC, setL_nC]; exact d1
        have b5 : m < slS (setL (setL s c m r false) d t q false) := by rw [setL_sl, setL_sl]; exact m1'
        have b6 : q < nR (setL (setL s c m r false) d t q false) := by rw [setL_nR, setL_nR]; exact q1
        generalize hs1 : setL s c m r false = s1 at hi1 hi2 d1' b1 b2 b3 b4 b5 b6
        generalize hs2 : setL s1 d t q false = s2 at hi2 b1 b2 b3 b4 b5 b6
        by_cases f1 : fstS s2 c t r = 0
        · have hi3 := i2_in hi2 b1 b3 b2 f1
          have b4' : d < nC (setL s2 c t r true) := by rw [setL_nC]; exact b4
          have b5' : m < slS (setL s2 c t r true) := by rw [setL_sl]; exact b5
          have b6' : q < nR (setL s2 c t r true) := by rw [setL_nR]; exact b6
          generalize hs3 : setL s2 c t r true = s3 at hi3 b4' b5' b6'
          by_cases f2 : fstS s3 d m q = 0
          · have hi4 := i2_in hi3 b4' b6' b5' f2
            generalize hs4 : setL s3 d m q true = s4 at hi4
            have l1 := ct_le (fun c => hC s4 c m) (nC s4)
            have l2 := ct_le (fun c => hC s4 c t) (nC s4)
            have l3 := nC20 hi4.1
            refine stp_at (u := nI (ct (fun c => hC s4 c m) (nC s4) + ct (fun c => hC s4 c t) (nC s4))) (nI_nn (by omega)) hi4 (fun g fs n h e9 Q => ?_)
            subst e9
            have hro1 := cls_lesson (sc := sc) z7 hI hx hr6
            have hro2 := cls_lesson (sc := sc) z7 hI hy hq6
            have hcp := fun Q => s_copyFrom (sc := sc) (Q := Q) (g := g) (j := 1) (i := 0) (by decide) z7 (by decide) (h.1 0 z7) (h.1 1 (by decide))
            have hst1 := fun Q => s_set0 (sc := sc) (g := stS g 1 (g.1 0)) (Q := Q) (j := 1) (m := m) (r := r) (c := c) (by decide) (by rw [stS_at]; exact hI) (by rw [stS_at]; exact c1) hr6
            rw [stS_at, stS_twice, hs1] at hst1
            have hst2 := fun Q => s_set0 (sc := sc) (g := stS g 1 s1) (Q := Q) (j := 1) (m := t) (r := q) (c := d) (by decide) (by rw [stS_at]; exact hi1.1) (by rw [stS_at]; exact d1') hq6
            rw [stS_at, stS_twice, hs2] at hst2
            have hfr := fun Q => s_firstReason (sc := sc) (Q := Q) (g := stS g 1 s2) (j := 1) (c := c) (m := t) (r := r) (by decide) (by rw [stS_at]; exact hi2.1.2.1) (by rw [stS_at]; exact hi2.1.2.2.1) (by rw [stS_at]; exact b1) (by rw [stS_at]; exact b2) hr6
            rw [stS_at] at hfr
            have hst3 := fun Q => s_set1 (sc := sc) (g := stS g 1 s2) (Q := Q) (j := 1) (m := t) (r := r) (c := c) (by decide) (by rw [stS_at]; exact hi2.1) (by rw [stS_at]; exact b1) hr6
            rw [stS_at, stS_twice, hs3] at hst3
            have hfr2 := fun Q => s_firstReason (sc := sc) (Q := Q) (g := stS g 1 s3) (j := 1) (c := d) (m := m) (r := q) (by decide) (by rw [stS_at]; exact hi3.1.2.1) (by rw [stS_at]; exact hi3.1.2.2.1) (by rw [stS_at]; exact b4') (by rw [stS_at]; exact b5') hq6
            rw [stS_at] at hfr2
            have hst4 := fun Q => s_set1 (sc := sc) (g := stS g 1 s3) (Q := Q) (j := 1) (m := m) (r := q) (c := d) (by decide) (by rw [stS_at]; exact hi3.1) (by rw [stS_at]; exact b4') hq6
            rw [stS_at, stS_twice, hs4] at hst4
            have had := fun Q => c_adopt (sc := sc) (Q := Q) (Rw_trial h hi4.1.1)
            rw [stS_at] at had
            have hli := fun (m : Nat) (hm : m < 64) (Q : Option Value → ri_W → Prop) => s_lessonsIn (sc := sc) (Q := Q) (g := stS (remG (stS g 1 s4) fs n) 0 s4) (j := 0) z7 (by rw [stS_at]; exact hi4.1.2.1) hm
            rw [stS_at] at hli
            simp only [↓en65, ↓u65_0, ↓u65_1, ↓u65_4, ↓u65_5, ↓u65_6, ↓u65_9, ↓u65_25, ↓u65_12, ↓u65_26, ↓u65_13, ↓u65_16, ↓u65_17, ↓u65_19, ↓u65_22, ↓u65_27, ↓u65_28, ↓u65_30, ↓u65_36, ↓u65_33, ↓u65_37, ↓u65_35, ↓u65_40, ↓u65_41, ↓u65_42, ↓u65_45, ↓u65_47, ↓u65_48, ↓u65_51, ↓u65_52, ↓u65_54, ↓u65_57, ↓u65_59, ↓u65_60, ↓u65_63, ↓u65_64, ↓u65_67, ↓u65_70, ↓u65_71, ↓u65_74, ↓u65_75, ↓u65_76, ↓u65_78, ↓u65_79, ↓u65_82, ↓u65_83, ↓u65_86, ↓u65_87, ↓u65_89, ↓u65_91, ↓u65_92, ↓u65_95, ↓u65_96, ↓u65_99, ↓u65_100, ↓u65_102, ↓u65_104, ↓u65_107, ↓u65_113, ↓u65_110, ↓u65_114, ↓u65_112, ↓u65_117, ↓u65_118, ↓u65_120, ↓u65_122, ↓u65_123, ↓u65_126, ↓u65_127, ↓u65_130, ↓u65_131, ↓u65_132, ↓u65_134, ↓u65_137, ↓u65_143, ↓u65_140, ↓u65_144, ↓u65_142, ↓u65_147, ↓u65_148, ↓u65_149, ↓u65_151, ↓u65_152, ↓u65_155, ↓u65_156, ↓u65_159, ↓u65_160, ↓u65_163, ↓u65_164, ↓u65_167, ↓u65_168, ↓u65_171, ↓u65_173, ↓u65_176, ↓u65_177, ↓nf0, ↓nf1, ↓m_o, ↓s_o z7, ↓s_o (show 1 < 7 by decide), ↓s_knowsLesson z7 hI.2.1, ↓c_v_some, ↓c_v_none, e, e', n10, n00, eq1, if_false, if_true, ↓hro1, ↓hro2, ↓hcp, ↓hst1, ↓hst2, ↓hfr, f1, ↓hst3, ↓hfr2, f2, ↓hst4, ↓had, ↓hli m hm6, ↓hli t ht6, nI_add]
          · refine stp_qt (u := -4) (by decide) hi3.1.1 (fun g fs n h e9 Q => ?_)
            subst e9
            have hro1 := cls_lesson (sc := sc) z7 hI hx hr6
            have hro2 := cls_lesson (sc := sc) z7 hI hy hq6
            have hcp := fun Q => s_copyFrom (sc := sc) (Q := Q) (g := g) (j := 1) (i := 0) (by decide) z7 (by decide) (h.1 0 z7) (h.1 1 (by decide))
            have hst1 := fun Q => s_set0 (sc := sc) (g := stS g 1 (g.1 0)) (Q := Q) (j := 1) (m := m) (r := r) (c := c) (by decide) (by rw [stS_at]; exact hI) (by rw [stS_at]; exact c1) hr6
            rw [stS_at, stS_twice, hs1] at hst1
            have hst2 := fun Q => s_set0 (sc := sc) (g := stS g 1 s1) (Q := Q) (j := 1) (m := t) (r := q) (c := d) (by decide) (by rw [stS_at]; exact hi1.1) (by rw [stS_at]; exact d1') hq6
            rw [stS_at, stS_twice, hs2] at hst2
            have hfr := fun Q => s_firstReason (sc := sc) (Q := Q) (g := stS g 1 s2) (j := 1) (c := c) (m := t) (r := r) (by decide) (by rw [stS_at]; exact hi2.1.2.1) (by rw [stS_at]; exact hi2.1.2.2.1) (by rw [stS_at]; exact b1) (by rw [stS_at]; exact b2) hr6
            rw [stS_at] at hfr
            have hst3 := fun Q => s_set1 (sc := sc) (g := stS g 1 s2) (Q := Q) (j := 1) (m := t) (r := r) (c := c) (by decide) (by rw [stS_at]; exact hi2.1) (by rw [stS_at]; exact b1) hr6
            rw [stS_at, stS_twice, hs3] at hst3
            have hfr2 := fun Q => s_firstReason (sc := sc) (Q := Q) (g := stS g 1 s3) (j := 1) (c := d) (m := m) (r := q) (by decide) (by rw [stS_at]; exact hi3.1.2.1) (by rw [stS_at]; exact hi3.1.2.2.1) (by rw [stS_at]; exact b4') (by rw [stS_at]; exact b5') hq6
            rw [stS_at] at hfr2
            simp only [↓en65, ↓u65_0, ↓u65_1, ↓u65_4, ↓u65_5, ↓u65_6, ↓u65_9, ↓u65_25, ↓u65_12, ↓u65_26, ↓u65_13, ↓u65_16, ↓u65_17, ↓u65_19, ↓u65_22, ↓u65_27, ↓u65_28, ↓u65_30, ↓u65_36, ↓u65_33, ↓u65_37, ↓u65_35, ↓u65_40, ↓u65_41, ↓u65_42, ↓u65_45, ↓u65_47, ↓u65_48, ↓u65_51, ↓u65_52, ↓u65_54, ↓u65_57, ↓u65_59, ↓u65_60, ↓u65_63, ↓u65_64, ↓u65_67, ↓u65_70, ↓u65_71, ↓u65_74, ↓u65_75, ↓u65_76, ↓u65_78, ↓u65_79, ↓u65_82, ↓u65_83, ↓u65_86, ↓u65_87, ↓u65_89, ↓u65_91, ↓u65_92, ↓u65_95, ↓u65_96, ↓u65_99, ↓u65_100, ↓u65_102, ↓u65_104, ↓u65_107, ↓u65_113, ↓u65_110, ↓u65_114, ↓u65_112, ↓u65_117, ↓u65_118, ↓u65_120, ↓u65_122, ↓u65_123, ↓u65_126, ↓u65_127, ↓u65_130, ↓u65_131, ↓u65_132, ↓u65_134, ↓u65_137, ↓u65_143, ↓u65_140, ↓u65_144, ↓u65_142, ↓u65_147, ↓u65_148, ↓u65_149, ↓u65_151, ↓u65_152, ↓u65_155, ↓u65_156, ↓u65_159, ↓u65_160, ↓u65_163, ↓u65_164, ↓u65_167, ↓u65_168, ↓u65_171, ↓u65_173, ↓u65_176, ↓u65_177, ↓nf0, ↓nf1, ↓m_o, ↓s_o z7, ↓s_o (show 1 < 7 by decide), ↓s_knowsLesson z7 hI.2.1, ↓c_v_some, ↓c_v_none, e, e', n10, n00, eq1, if_false, if_true, ↓hro1, ↓hro2, ↓hcp, ↓hst1, ↓hst2, ↓hfr, f1, ↓hst3, ↓hfr2, f2]
        · refine stp_qt (u := -4) (by decide) hi2.1.1 (fun g fs n h e9 Q => ?_)
          subst e9
          have hro1 := cls_lesson (sc := sc) z7 hI hx hr6
          have hro2 := cls_lesson (sc := sc) z7 hI hy hq6
          have hcp := fun Q => s_copyFrom (sc := sc) (Q := Q) (g := g) (j := 1) (i := 0) (by decide) z7 (by decide) (h.1 0 z7) (h.1 1 (by decide))
          have hst1 := fun Q => s_set0 (sc := sc) (g := stS g 1 (g.1 0)) (Q := Q) (j := 1) (m := m) (r := r) (c := c) (by decide) (by rw [stS_at]; exact hI) (by rw [stS_at]; exact c1) hr6
          rw [stS_at, stS_twice, hs1] at hst1
          have hst2 := fun Q => s_set0 (sc := sc) (g := stS g 1 s1) (Q := Q) (j := 1) (m := t) (r := q) (c := d) (by decide) (by rw [stS_at]; exact hi1.1) (by rw [stS_at]; exact d1') hq6
          rw [stS_at, stS_twice, hs2] at hst2
          have hfr := fun Q => s_firstReason (sc := sc) (Q := Q) (g := stS g 1 s2) (j := 1) (c := c) (m := t) (r := r) (by decide) (by rw [stS_at]; exact hi2.1.2.1) (by rw [stS_at]; exact hi2.1.2.2.1) (by rw [stS_at]; exact b1) (by rw [stS_at]; exact b2) hr6
          rw [stS_at] at hfr
          simp only [↓en65, ↓u65_0, ↓u65_1, ↓u65_4, ↓u65_5, ↓u65_6, ↓u65_9, ↓u65_25, ↓u65_12, ↓u65_26, ↓u65_13, ↓u65_16, ↓u65_17, ↓u65_19, ↓u65_22, ↓u65_27, ↓u65_28, ↓u65_30, ↓u65_36, ↓u65_33, ↓u65_37, ↓u65_35, ↓u65_40, ↓u65_41, ↓u65_42, ↓u65_45, ↓u65_47, ↓u65_48, ↓u65_51, ↓u65_52, ↓u65_54, ↓u65_57, ↓u65_59, ↓u65_60, ↓u65_63, ↓u65_64, ↓u65_67, ↓u65_70, ↓u65_71, ↓u65_74, ↓u65_75, ↓u65_76, ↓u65_78, ↓u65_79, ↓u65_82, ↓u65_83, ↓u65_86, ↓u65_87, ↓u65_89, ↓u65_91, ↓u65_92, ↓u65_95, ↓u65_96, ↓u65_99, ↓u65_100, ↓u65_102, ↓u65_104, ↓u65_107, ↓u65_113, ↓u65_110, ↓u65_114, ↓u65_112, ↓u65_117, ↓u65_118, ↓u65_120, ↓u65_122, ↓u65_123, ↓u65_126, ↓u65_127, ↓u65_130, ↓u65_131, ↓u65_132, ↓u65_134, ↓u65_137, ↓u65_143, ↓u65_140, ↓u65_144, ↓u65_142, ↓u65_147, ↓u65_148, ↓u65_149, ↓u65_151, ↓u65_152, ↓u65_155, ↓u65_156, ↓u65_159, ↓u65_160, ↓u65_163, ↓u65_164, ↓u65_167, ↓u65_168, ↓u65_171, ↓u65_173, ↓u65_176, ↓u65_177, ↓nf0, ↓nf1, ↓m_o, ↓s_o z7, ↓s_o (show 1 < 7 by decide), ↓s_knowsLesson z7 hI.2.1, ↓c_v_some, ↓c_v_none, e, e', n10, n00, eq1, if_false, if_true, ↓hro1, ↓hro2, ↓hcp, ↓hst1, ↓hst2, ↓hfr, f1]
theorem p_fill (hJ : inv2 s) {v : Int32} : Stq sc 66 [.ref 0, .int v] s := by
  have hI := hJ.1
  have h48 := (sl48 hI).1
  have h20 := nC20 hI
  rcases ii_cases (v := v) (n := nC s) (by omega) with ⟨c, c1, rfl, c2⟩ | ⟨-, c2⟩
  · have hc20 : c < 20 := by omega
    obtain ⟨f1, f2, f3⟩ := fill_inv (c := c) (slS s) 0 s hI c1 (by omega)
    have f4 := i2_fill (c := c) (slS s) 0 s hJ c1 (by omega)
    have hpb : plc s c ≤ 64 := pcn_le _
    have hpb2 : plc (fillS s c (slS s) 0) c ≤ 64 := pcn_le _
    generalize hN : fillN s c (slS s) 0 = N at f2 f3
    generalize hF : fillS s c (slS s) 0 = sF at f1 f2 f3 f4 hpb2
    have esub : nI (plc sF c) - nI (plc s c) = nI N := by
      rw [nI_sub (by omega)]
      congr 1
      omega
    by_cases e : N = 0
    · have e0 : (nI N ≤ 0) = True := by rw [e]; decide
      have e1 : ((0 : Int32) < nI N) = False := by rw [e]; decide
      refine stp_qt (u := -5) (by decide) f1.1 (fun g fs n h e9 Q => ?_)
      subst e9
      have hcl := fun b Q => c_fill_l (sc := sc) (g := g) (Q := Q) (b := b) (slS (g.1 0)) 0 (g.1 0) hI c1 (by omega)
      rw [hF] at hcl
      have hcp := fun Q => s_copyFrom (sc := sc) (Q := Q) (g := g) (j := 1) (i := 0) (by decide) z7 (by decide) (h.1 0 z7) (h.1 1 (by decide))
      have hpl : ∀ (s : SV) (Q : Option Value → ri_W → Prop), ev sc 36 [.ref (bs 1), .int (nI c)] (Wd (stS g 1 s)) Q = Q (some (.int (nI (plc s c)))) (Wd (stS g 1 s)) := fun s Q => by
        rw [s_placed (by decide) hc20, stS_at]
      simp only [↓en66, ↓u66_0, ↓u66_1, ↓u66_2, ↓u66_5, ↓u66_10, ↓u66_8, ↓u66_11, ↓u66_9, ↓u66_14, ↓u66_15, ↓u66_18, ↓u66_21, ↓u66_22, ↓u66_25, ↓u66_26, ↓u66_29, ↓u66_30, ↓u66_31, ↓u66_33, ↓u66_34, ↓u66_37, ↓u66_40, ↓u66_79, ↓u66_43, ↓u66_80, ↓u66_44, ↓u66_83, ↓u66_47, ↓u66_84, ↓u66_48, ↓u66_87, ↓u66_49, ↓u66_88, ↓u66_52, ↓u66_89, ↓u66_54, ↓u66_90, ↓u66_56, ↓u66_91, ↓u66_58, ↓u66_97, ↓u66_94, ↓u66_73, ↓u66_61, ↓u66_98, ↓u66_96, ↓u66_76, ↓u66_62, ↓u66_101, ↓u66_65, ↓u66_102, ↓u66_66, ↓u66_67, ↓u66_69, ↓u66_70, ↓m_o, ↓c_knowsCourse, ↓c_v_some, ↓c_v_none, nC_eq hI, c2, n10, if_false, ↓nf0, ↓nf1, ↓s_o (show 1 < 7 by decide), ↓hcp, ↓hpl]
      refine (hcl _ _).trans ?_
      simp only [↓u66_0, ↓u66_1, ↓u66_2, ↓u66_5, ↓u66_10, ↓u66_8, ↓u66_11, ↓u66_9, ↓u66_14, ↓u66_15, ↓u66_18, ↓u66_21, ↓u66_22, ↓u66_25, ↓u66_26, ↓u66_29, ↓u66_30, ↓u66_31, ↓u66_33, ↓u66_34, ↓u66_37, ↓u66_40, ↓u66_79, ↓u66_43, ↓u66_80, ↓u66_44, ↓u66_83, ↓u66_47, ↓u66_84, ↓u66_48, ↓u66_87, ↓u66_49, ↓u66_88, ↓u66_52, ↓u66_89, ↓u66_54, ↓u66_90, ↓u66_56, ↓u66_91, ↓u66_58, ↓u66_97, ↓u66_94, ↓u66_73, ↓u66_61, ↓u66_98, ↓u66_96, ↓u66_76, ↓u66_62, ↓u66_101, ↓u66_65, ↓u66_102, ↓u66_66, ↓u66_67, ↓u66_69, ↓u66_70, ↓nf1, ↓s_o (show 1 < 7 by decide), ↓hpl, ↓c_v_some, esub, e0, e1, if_true, if_false]
    · have e0 : ¬ nI N ≤ 0 := nI_nle (by omega) (by omega)
      have e1 : (0 : Int32) < nI N := Int32.not_le.mp e0
      refine stp_at (u := nI N) (nI_nn (by omega)) f4 (fun g fs n h e9 Q => ?_)
      subst e9
      have hcl := fun b Q => c_fill_l (sc := sc) (g := g) (Q := Q) (b := b) (slS (g.1 0)) 0 (g.1 0) hI c1 (by omega)
      rw [hF] at hcl
      have hcp := fun Q => s_copyFrom (sc := sc) (Q := Q) (g := g) (j := 1) (i := 0) (by decide) z7 (by decide) (h.1 0 z7) (h.1 1 (by decide))
      have hpl : ∀ (s : SV) (Q : Option Value → ri_W → Prop), ev sc 36 [.ref (bs 1), .int (nI c)] (Wd (stS g 1 s)) Q = Q (some (.int (nI (plc s c)))) (Wd (stS g 1 s)) := fun s Q => by
        rw [s_placed (by decide) hc20, stS_at]
      have had := fun Q => c_adopt (sc := sc) (Q := Q) (Rw_trial h f1.1)
      rw [stS_at] at had
      simp only [↓en66, ↓u66_0, ↓u66_1, ↓u66_2, ↓u66_5, ↓u66_10, ↓u66_8, ↓u66_11, ↓u66_9, ↓u66_14, ↓u66_15, ↓u66_18, ↓u66_21, ↓u66_22, ↓u66_25, ↓u66_26, ↓u66_29, ↓u66_30, ↓u66_31, ↓u66_33, ↓u66_34, ↓u66_37, ↓u66_40, ↓u66_79, ↓u66_43, ↓u66_80, ↓u66_44, ↓u66_83, ↓u66_47, ↓u66_84, ↓u66_48, ↓u66_87, ↓u66_49, ↓u66_88, ↓u66_52, ↓u66_89, ↓u66_54, ↓u66_90, ↓u66_56, ↓u66_91, ↓u66_58, ↓u66_97, ↓u66_94, ↓u66_73, ↓u66_61, ↓u66_98, ↓u66_96, ↓u66_76, ↓u66_62, ↓u66_101, ↓u66_65, ↓u66_102, ↓u66_66, ↓u66_67, ↓u66_69, ↓u66_70, ↓m_o, ↓c_knowsCourse, ↓c_v_some, ↓c_v_none, nC_eq hI, c2, n10, if_false, ↓nf0, ↓nf1, ↓s_o (show 1 < 7 by decide), ↓hcp, ↓hpl]
      refine (hcl _ _).trans ?_
      simp only [↓u66_0, ↓u66_1, ↓u66_2, ↓u66_5, ↓u66_10, ↓u66_8, ↓u66_11, ↓u66_9, ↓u66_14, ↓u66_15, ↓u66_18, ↓u66_21, ↓u66_22, ↓u66_25, ↓u66_26, ↓u66_29, ↓u66_30, ↓u66_31, ↓u66_33, ↓u66_34, ↓u66_37, ↓u66_40, ↓u66_79, ↓u66_43, ↓u66_80, ↓u66_44, ↓u66_83, ↓u66_47, ↓u66_84, ↓u66_48, ↓u66_87, ↓u66_49, ↓u66_88, ↓u66_52, ↓u66_89, ↓u66_54, ↓u66_90, ↓u66_56, ↓u66_91, ↓u66_58, ↓u66_97, ↓u66_94, ↓u66_73, ↓u66_61, ↓u66_98, ↓u66_96, ↓u66_76, ↓u66_62, ↓u66_101, ↓u66_65, ↓u66_102, ↓u66_66, ↓u66_67, ↓u66_69, ↓u66_70, ↓m_o, ↓nf1, ↓s_o (show 1 < 7 by decide), ↓hpl, ↓c_v_some, esub, e0, e1, if_true, if_false, ↓had, ↓c_v_none]
  · refine stp_q (u := -1) (by decide) (fun g fs n h e9 Q => ?_)
    subst e9
    simp only [↓en66, ↓u66_0, ↓u66_1, ↓u66_2, ↓u66_5, ↓u66_10, ↓u66_8, ↓u66_11, ↓u66_9, ↓u66_14, ↓u66_15, ↓u66_18, ↓u66_21, ↓u66_22, ↓u66_25, ↓u66_26, ↓u66_29, ↓u66_30, ↓u66_31, ↓u66_33, ↓u66_34, ↓u66_37, ↓u66_40, ↓u66_79, ↓u66_43, ↓u66_80, ↓u66_44, ↓u66_83, ↓u66_47, ↓u66_84, ↓u66_48, ↓u66_87, ↓u66_49, ↓u66_88, ↓u66_52, ↓u66_89, ↓u66_54, ↓u66_90, ↓u66_56, ↓u66_91, ↓u66_58, ↓u66_97, ↓u66_94, ↓u66_73, ↓u66_61, ↓u66_98, ↓u66_96, ↓u66_76, ↓u66_62, ↓u66_101, ↓u66_65, ↓u66_102, ↓u66_66, ↓u66_67, ↓u66_69, ↓u66_70, ↓m_o, ↓c_knowsCourse, ↓c_v_some, nC_eq hI, c2, n00, if_true]
end
