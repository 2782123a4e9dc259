/-! THE TWO AGREE: text is typed; lessons are swapped -/
section
variable {sc : Nat × (Nat → Int32)} {g : SG} {fs n j : Nat} {Q : Option Value → ri_W → Prop}
theorem hX_out {s : SV} {c m r c' m' r' : Nat} {b : Bool} (hm : m < 64) (hr : r < 6) (hr' : r' < 6) (h : hX s c' r' m' = true) (hne : ¬ (m' = m)) : hX (setL s c m r b) c' r' m' = true := by
  rw [setL_X hm hr hr', if_neg (fun e => hne e.2.2)]
  exact h
theorem cls_lesson (hj : j < 7) (hI : inv (g.1 j)) {c m r : Nat} (hx : hX (g.1 j) c r m = true) (hr : r < 6) : ∀ Q, ev sc 35 [.ref (bs j), .int (nI c), .int (nI m)] (Wd g) Q = Q (some (.int (nI r))) (Wd g) := fun Q => by
  have h1 := hI.2.2.2.2.1.1 c r m hr hx
  have h20 := nC20 hI
  have h48 := (sl48 hI).1
  rw [s_roomOf hj hI.2.1 (by omega) (by omega), roomS_rm hI, (rm_iff hI.2.2.2.2.1.2.1).mpr ⟨hr, hx⟩]
  rfl
theorem mod_lesson {s : SV} (hI : inv s) {c m r : Nat} (hx : hX s c r m = true) (hr : r < 6) (g0 : SG) (hg : g0.2.2.2.2 0 = mdl s) : ∀ Q, ev sc 109 [.ref 154, .int (nI c), .int (nI m)] (Wd g0) Q = Q (some (.int (nI r))) (Wd g0) := fun Q => by
  have h1 := hI.2.2.2.2.1.1 c r m hr hx
  have h20 := nC20 hI
  have h48 := (sl48 hI).1
  rw [m_roomOf hI hg (by omega) (by omega), (rm_iff hI.2.2.2.2.1.2.1).mpr ⟨hr, hx⟩]
  rfl
theorem o_swap (h : R g) {v x y z : Int32} : both sc 72 149 [.int v, .int x, .int y, .int z] g := by
  have hI := h.2.1
  have hM := h.2.2.1
  have h48 := (sl48 hI).1
  have h20 := nC20 hI
  have h6 := nR6 hI
  obtain ⟨fs, n, hh⟩ := h.2.2.2.1
  rcases klS_1 (v := v) (m := x) hI with e | ⟨e, c, m, r, rfl, rfl, c1, m1', r1', hc, hx, hrm⟩
  · refine both_q h (v := -1) (fun Q => ?_) (fun Q => ?_)
    · simp only [↓en72, ↓u72_0, ↓u72_1, ↓u72_4, ↓u72_5, ↓u72_6, ↓u72_9, ↓u72_25, ↓u72_12, ↓u72_26, ↓u72_13, ↓u72_16, ↓u72_17, ↓u72_19, ↓u72_22, ↓u72_27, ↓u72_28, ↓u72_30, ↓u72_36, ↓u72_33, ↓u72_37, ↓u72_35, ↓u72_40, ↓u72_41, ↓u72_42, ↓u72_45, ↓u72_47, ↓u72_48, ↓u72_51, ↓u72_52, ↓u72_54, ↓u72_57, ↓u72_59, ↓u72_60, ↓u72_63, ↓u72_64, ↓u72_67, ↓u72_70, ↓u72_71, ↓u72_74, ↓u72_75, ↓u72_76, ↓u72_78, ↓u72_79, ↓u72_82, ↓u72_83, ↓u72_86, ↓u72_87, ↓u72_89, ↓u72_91, ↓u72_92, ↓u72_95, ↓u72_96, ↓u72_99, ↓u72_100, ↓u72_102, ↓u72_104, ↓u72_107, ↓u72_113, ↓u72_110, ↓u72_114, ↓u72_112, ↓u72_117, ↓u72_118, ↓u72_120, ↓u72_122, ↓u72_123, ↓u72_126, ↓u72_127, ↓u72_130, ↓u72_131, ↓u72_132, ↓u72_134, ↓u72_137, ↓u72_143, ↓u72_140, ↓u72_144, ↓u72_142, ↓u72_147, ↓u72_148, ↓u72_149, ↓u72_151, ↓u72_152, ↓u72_155, ↓u72_156, ↓u72_159, ↓u72_160, ↓u72_163, ↓u72_164, ↓u72_167, ↓u72_168, ↓u72_171, ↓u72_173, ↓u72_176, ↓u72_177, ↓nf0, ↓s_o z7, ↓s_knowsLesson z7 hI.2.1, ↓c_v_some, e, n00, if_true]
    · simp only [↓en149, ↓u149_0, ↓u149_1, ↓u149_2, ↓u149_3, ↓u149_6, ↓u149_19, ↓u149_9, ↓u149_20, ↓u149_10, ↓u149_11, ↓u149_13, ↓u149_16, ↓u149_21, ↓u149_22, ↓u149_24, ↓u149_30, ↓u149_27, ↓u149_31, ↓u149_29, ↓u149_32, ↓u149_33, ↓u149_36, ↓u149_38, ↓u149_39, ↓u149_40, ↓u149_42, ↓u149_45, ↓u149_47, ↓u149_48, ↓u149_49, ↓u149_52, ↓u149_53, ↓u149_54, ↓u149_55, ↓u149_57, ↓u149_60, ↓u149_61, ↓u149_62, ↓u149_64, ↓u149_66, ↓u149_69, ↓u149_70, ↓u149_71, ↓u149_73, ↓u149_75, ↓u149_78, ↓u149_85, ↓u149_81, ↓u149_86, ↓u149_82, ↓u149_88, ↓u149_90, ↓u149_120, ↓u149_93, ↓u149_122, ↓u149_94, ↓u149_133, ↓u149_125, ↓u149_95, ↓u149_134, ↓u149_126, ↓u149_97, ↓u149_137, ↓u149_127, ↓u149_99, ↓u149_138, ↓u149_130, ↓u149_102, ↓u149_139, ↓u149_132, ↓u149_103, ↓u149_140, ↓u149_104, ↓u149_142, ↓u149_105, ↓u149_145, ↓u149_107, ↓u149_146, ↓u149_110, ↓u149_147, ↓u149_117, ↓u149_113, ↓u149_150, ↓u149_118, ↓u149_114, ↓u149_151, ↓u149_153, ↓u149_156, ↓u149_157, ↓d_o, ↓m_isLesson hI hM, ↓c_v_some, e, n00, if_true]
  · rcases klS_1 (v := y) (m := z) hI with e' | ⟨e', d, t, q, rfl, rfl, d1, t1, q1, hd, hy, hrm'⟩
    · refine both_q h (v := -1) (fun Q => ?_) (fun Q => ?_)
      · simp only [↓en72, ↓u72_0, ↓u72_1, ↓u72_4, ↓u72_5, ↓u72_6, ↓u72_9, ↓u72_25, ↓u72_12, ↓u72_26, ↓u72_13, ↓u72_16, ↓u72_17, ↓u72_19, ↓u72_22, ↓u72_27, ↓u72_28, ↓u72_30, ↓u72_36, ↓u72_33, ↓u72_37, ↓u72_35, ↓u72_40, ↓u72_41, ↓u72_42, ↓u72_45, ↓u72_47, ↓u72_48, ↓u72_51, ↓u72_52, ↓u72_54, ↓u72_57, ↓u72_59, ↓u72_60, ↓u72_63, ↓u72_64, ↓u72_67, ↓u72_70, ↓u72_71, ↓u72_74, ↓u72_75, ↓u72_76, ↓u72_78, ↓u72_79, ↓u72_82, ↓u72_83, ↓u72_86, ↓u72_87, ↓u72_89, ↓u72_91, ↓u72_92, ↓u72_95, ↓u72_96, ↓u72_99, ↓u72_100, ↓u72_102, ↓u72_104, ↓u72_107, ↓u72_113, ↓u72_110, ↓u72_114, ↓u72_112, ↓u72_117, ↓u72_118, ↓u72_120, ↓u72_122, ↓u72_123, ↓u72_126, ↓u72_127, ↓u72_130, ↓u72_131, ↓u72_132, ↓u72_134, ↓u72_137, ↓u72_143, ↓u72_140, ↓u72_144, ↓u72_142, ↓u72_147, ↓u72_148, ↓u72_149, ↓u72_151, ↓u72_152, ↓u72_155, ↓u72_156, ↓u72_159, ↓u72_160, ↓u72_163, ↓u72_164, ↓u72_167, ↓u72_168, ↓u72_171, ↓u72_173, ↓u72_176, ↓u72_177, ↓nf0, ↓s_o z7, ↓s_knowsLesson z7 hI.2.1, ↓c_v_some, e, e', n10, n00, if_true, if_false]
      · simp only [↓en149, ↓u149_0, ↓u149_1, ↓u149_2, ↓u149_3, ↓u149_6, ↓u149_19, ↓u149_9, ↓u149_20, ↓u149_10, ↓u149_11, ↓u149_13, ↓u149_16, ↓u149_21, ↓u149_22, ↓u149_24, ↓u149_30, ↓u149_27, ↓u149_31, ↓u149_29, ↓u149_32, ↓u149_33, ↓u149_36, ↓u149_38, ↓u149_39, ↓u149_40, ↓u149_42, ↓u149_45, ↓u149_47, ↓u149_48, ↓u149_49, ↓u149_52, ↓u149_53, ↓u149_54, ↓u149_55, ↓u149_57, ↓u149_60, ↓u149_61, ↓u149_62, ↓u149_64, ↓u149_66, ↓u149_69, ↓u149_70, ↓u149_71, ↓u149_73, ↓u149_75, ↓u149_78, ↓u149_85, ↓u149_81, ↓u149_86, ↓u149_82, ↓u149_88, ↓u149_90, ↓u149_120, ↓u149_93, ↓u149_122, ↓u149_94, ↓u149_133, ↓u149_125, ↓u149_95, ↓u149_134, ↓u149_126, ↓u149_97, ↓u149_137, ↓u149_127, ↓u149_99, ↓u149_138, ↓u149_130, ↓u149_102, ↓u149_139, ↓u149_132, ↓u149_103, ↓u149_140, ↓u149_104, ↓u149_142, ↓u149_105, ↓u149_145, ↓u149_107, ↓u149_146, ↓u149_110, ↓u149_147, ↓u149_117, ↓u149_113, ↓u149_150, ↓u149_118, ↓u149_114, ↓u149_151, ↓u149_153, ↓u149_156, ↓u149_157, ↓d_o, ↓m_isLesson hI hM, ↓c_v_some, e, e', n10, n00, if_true, if_false]
    · by_cases emt : m = t
      · subst emt
        have eq1 : (nI m = nI m) = True := eq_true rfl
        refine both_q h (v := -5) (fun Q => ?_) (fun Q => ?_)
        · simp only [↓en72, ↓u72_0, ↓u72_1, ↓u72_4, ↓u72_5, ↓u72_6, ↓u72_9, ↓u72_25, ↓u72_12, ↓u72_26, ↓u72_13, ↓u72_16, ↓u72_17, ↓u72_19, ↓u72_22, ↓u72_27, ↓u72_28, ↓u72_30, ↓u72_36, ↓u72_33, ↓u72_37, ↓u72_35, ↓u72_40, ↓u72_41, ↓u72_42, ↓u72_45, ↓u72_47, ↓u72_48, ↓u72_51, ↓u72_52, ↓u72_54, ↓u72_57, ↓u72_59, ↓u72_60, ↓u72_63, ↓u72_64, ↓u72_67, ↓u72_70, ↓u72_71, ↓u72_74, ↓u72_75, ↓u72_76, ↓u72_78, ↓u72_79, ↓u72_82, ↓u72_83, ↓u72_86, ↓u72_87, ↓u72_89, ↓u72_91, ↓u72_92, ↓u72_95, ↓u72_96, ↓u72_99, ↓u72_100, ↓u72_102, ↓u72_104, ↓u72_107, ↓u72_113, ↓u72_110, ↓u72_114, ↓u72_112, ↓u72_117, ↓u72_118, ↓u72_120, ↓u72_122, ↓u72_123, ↓u72_126, ↓u72_127, ↓u72_130, ↓u72_131, ↓u72_132, ↓u72_134, ↓u72_137, ↓u72_143, ↓u72_140, ↓u72_144, ↓u72_142, ↓u72_147, ↓u72_148, ↓u72_149, ↓u72_151, ↓u72_152, ↓u72_155, ↓u72_156, ↓u72_159, ↓u72_160, ↓u72_163, ↓u72_164, ↓u72_167, ↓u72_168, ↓u72_171, ↓u72_173, ↓u72_176, ↓u72_177, ↓nf0, ↓s_o z7, ↓s_knowsLesson z7 hI.2.1, ↓c_v_some, e, e', n10, eq1, if_true, if_false]
        · simp only [↓en149, ↓u149_0, ↓u149_1, ↓u149_2, ↓u149_3, ↓u149_6, ↓u149_19, ↓u149_9, ↓u149_20, ↓u149_10, ↓u149_11, ↓u149_13, ↓u149_16, ↓u149_21, ↓u149_22, ↓u149_24, ↓u149_30, ↓u149_27, ↓u149_31, ↓u149_29, ↓u149_32, ↓u149_33, ↓u149_36, ↓u149_38, ↓u149_39, ↓u149_40, ↓u149_42, ↓u149_45, ↓u149_47, ↓u149_48, ↓u149_49, ↓u149_52, ↓u149_53, ↓u149_54, ↓u149_55, ↓u149_57, ↓u149_60, ↓u149_61, ↓u149_62, ↓u149_64, ↓u149_66, ↓u149_69, ↓u149_70, ↓u149_71, ↓u149_73, ↓u149_75, ↓u149_78, ↓u149_85, ↓u149_81, ↓u149_86, ↓u149_82, ↓u149_88, ↓u149_90, ↓u149_120, ↓u149_93, ↓u149_122, ↓u149_94, ↓u149_133, ↓u149_125, ↓u149_95, ↓u149_134, ↓u149_126, ↓u149_97, ↓u149_137, ↓u149_127, ↓u149_99, ↓u149_138, ↓u149_130, ↓u149_102, ↓u149_139, ↓u149_132, ↓u149_103, ↓u149_140, ↓u149_104, ↓u149_142, ↓u149_105, ↓u149_145, ↓u149_107, ↓u149_146, ↓u149_110, ↓u149_147, ↓u149_117, ↓u149_113, ↓u149_150, ↓u149_118, ↓u149_114, ↓u149_151, ↓u149_153, ↓u149_156, ↓u149_157, ↓d_o, ↓m_isLesson hI hM, ↓c_v_some, e, e', n10, eq1, if_true, if_false]
      · have eq1 : ¬ nI m = nI t := fun e2 => emt ((nI_eq (by omega) (by omega)).mp e2)
        have hr6 : r < 6 := by omega
        have hq6 : q < 6 := by omega
        have hm6 : m < 64 := by omega
        have ht6 : t < 64 := by omega
        have hi1 := inv_out hI hr6 hx
        have hl1 := mdl_out hI hx hr6
        have hy1 := hX_out (c := c) (b := false) hm6 hr6 hq6 hy (fun e => emt e.symm)
        have hi2 := inv_out hi1 hq6 hy1
        have hl2 := mdl_out hi1 hy1 hq6
        have hro1 := cls_lesson (sc := sc) z7 hI hx hr6
        have hro2 := cls_lesson (sc := sc) z7 hI hy hq6
        have hcp := fun Q => s_copyFrom (sc := sc) (Q := Q) (g := g) (j := 1) (i := 0) (by decide) z7 (by decide) (h.1 0 z7) (h.1 1 (by decide))
        have hst1 := fun Q => s_set0 (sc := sc) (g := stS g 1 (g.1 0)) (Q := Q) (j := 1) (m := m) (r := r) (c := c) (by decide) (by rw [stS_at]; exact hI) (by rw [stS_at]; exact c1) hr6
        rw [stS_at, stS_twice] at hst1
        have hst2 := fun Q => s_set0 (sc := sc) (g := stS g 1 (setL (g.1 0) c m r false)) (Q := Q) (j := 1) (m := t) (r := q) (c := d) (by decide) (by rw [stS_at]; exact hi1) (by rw [stS_at, setL_nC]; exact d1) hq6
        rw [stS_at, stS_twice] at hst2
        have b1 : c < nC (setL (setL (g.1 0) c m r false) d t q false) := by rw [setL_nC, setL_nC]; exact c1
        have b2 : t < slS (setL (setL (g.1 0) c m r false) d t q false) := by rw [setL_sl, setL_sl]; exact t1
        have b3 : r < nR (setL (setL (g.1 0) c m r false) d t q false) := by rw [setL_nR, setL_nR]; exact r1'
        have b4 : d < nC (setL (setL (g.1 0) c m r false) d t q false) := by rw [setL_nC, setL_nC]; exact d1
        have b5 : m < slS (setL (setL (g.1 0) c m r false) d t q false) := by rw [setL_sl, setL_sl]; exact m1'
        have b6 : q < nR (setL (setL (g.1 0) c m r false) d t q false) := by rw [setL_nR, setL_nR]; exact q1
        generalize hs1 : setL (g.1 0) c m r false = s1 at hi1 hl1 hi2 hl2 hst1 hst2 b1 b2 b3 b4 b5 b6
        generalize hs2 : setL s1 d t q false = s2 at hi2 hl2 hst2 b1 b2 b3 b4 b5 b6
        have hfr := fun Q => s_firstReason (sc := sc) (Q := Q) (g := stS g 1 s2) (j := 1) (c := c) (m := t) (r := r) (by decide) (by rw [stS_at]; exact hi2.2.1) (by rw [stS_at]; exact hi2.2.2.1) (by rw [stS_at]; exact b1) (by rw [stS_at]; exact b2) hr6
        rw [stS_at] at hfr
        have mro1 := mod_lesson (sc := sc) hI hx hr6
        have mro2 := mod_lesson (sc := sc) hI hy hq6
        by_cases f1 : fstS s2 c t r = 0
        · have hi3 := inv_in hi2 b1 b3 b2 f1
          have hl3 := mdl_in hi2 b1 b2 b3 f1
          have hst3 := fun Q => s_set1 (sc := sc) (g := stS g 1 s2) (Q := Q) (j := 1) (m := t) (r := r) (c := c) (by decide) (by rw [stS_at]; exact hi2) (by rw [stS_at]; exact b1) hr6
          rw [stS_at, stS_twice] at hst3
          have b4' : d < nC (setL s2 c t r true) := by rw [setL_nC]; exact b4
          have b5' : m < slS (setL s2 c t r true) := by rw [setL_sl]; exact b5
          have b6' : q < nR (setL s2 c t r true) := by rw [setL_nR]; exact b6
          generalize hs3 : setL s2 c t r true = s3 at hi3 hl3 hst3 b4' b5' b6'
          have hfr2 := fun Q => s_firstReason (sc := sc) (Q := Q) (g := stS g 1 s3) (j := 1) (c := d) (m := m) (r := q) (by decide) (by rw [stS_at]; exact hi3.2.1) (by rw [stS_at]; exact hi3.2.2.1) (by rw [stS_at]; exact b4') (by rw [stS_at]; exact b5') hq6
          rw [stS_at] at hfr2
          by_cases f2 : fstS s3 d m q = 0
          · have hi4 := inv_in hi3 b4' b6' b5' f2
            have hl4 := mdl_in hi3 b4' b5' b6' f2
            have hst4 := fun Q => s_set1 (sc := sc) (g := stS g 1 s3) (Q := Q) (j := 1) (m := m) (r := q) (c := d) (by decide) (by rw [stS_at]; exact hi3) (by rw [stS_at]; exact b4') hq6
            rw [stS_at, stS_twice] at hst4
            generalize hs4 : setL s3 d m q true = s4 at hi4 hl4 hst4
            have hR1 := R_trial h hi4.1
            have hRh1 := Rh_trial hh (t := s4)
            have had := fun Q => c_adopt (sc := sc) (Q := Q) hR1 hRh1
            rw [stS_at] at had
            have hli := fun (m : Nat) (hm : m < 64) (Q : Option Value → ri_W → Prop) => s_lessonsIn (sc := sc) (Q := Q) (g := stS (remG (stS g 1 s4) fs n) 0 s4) (j := 0) z7 (by rw [stS_at]; exact hi4.2.1) hm
            rw [stS_at] at hli
            refine ⟨nI (ct (fun c => hC s4 c m) (nC s4) + ct (fun c => hC s4 c t) (nC s4)), stS (remG (stS g 1 s4) fs n) 0 s4, fin (stS g 1 s4) fs n (segW (g.2.2.2.2 1) 9460 1892 (mdl (g.1 0))) s4, fun Q => ?_, fun Q => ?_, R_adopt h hh hi4⟩
            · simp only [↓en72, ↓u72_0, ↓u72_1, ↓u72_4, ↓u72_5, ↓u72_6, ↓u72_9, ↓u72_25, ↓u72_12, ↓u72_26, ↓u72_13, ↓u72_16, ↓u72_17, ↓u72_19, ↓u72_22, ↓u72_27, ↓u72_28, ↓u72_30, ↓u72_36, ↓u72_33, ↓u72_37, ↓u72_35, ↓u72_40, ↓u72_41, ↓u72_42, ↓u72_45, ↓u72_47, ↓u72_48, ↓u72_51, ↓u72_52, ↓u72_54, ↓u72_57, ↓u72_59, ↓u72_60, ↓u72_63, ↓u72_64, ↓u72_67, ↓u72_70, ↓u72_71, ↓u72_74, ↓u72_75, ↓u72_76, ↓u72_78, ↓u72_79, ↓u72_82, ↓u72_83, ↓u72_86, ↓u72_87, ↓u72_89, ↓u72_91, ↓u72_92, ↓u72_95, ↓u72_96, ↓u72_99, ↓u72_100, ↓u72_102, ↓u72_104, ↓u72_107, ↓u72_113, ↓u72_110, ↓u72_114, ↓u72_112, ↓u72_117, ↓u72_118, ↓u72_120, ↓u72_122, ↓u72_123, ↓u72_126, ↓u72_127, ↓u72_130, ↓u72_131, ↓u72_132, ↓u72_134, ↓u72_137, ↓u72_143, ↓u72_140, ↓u72_144, ↓u72_142, ↓u72_147, ↓u72_148, ↓u72_149, ↓u72_151, ↓u72_152, ↓u72_155, ↓u72_156, ↓u72_159, ↓u72_160, ↓u72_163, ↓u72_164, ↓u72_167, ↓u72_168, ↓u72_171, ↓u72_173, ↓u72_176, ↓u72_177, ↓nf0, ↓nf1, ↓m_o, ↓s_o z7, ↓s_o (show 1 < 7 by decide), ↓s_knowsLesson z7 hI.2.1, ↓c_v_some, ↓c_v_none, e, e', n10, n00, eq1, if_false, if_true, ↓hro1, ↓hro2, ↓hcp, ↓hst1, ↓hst2, ↓hfr, f1, ↓hst3, ↓hfr2, f2, ↓hst4, ↓had, ↓hli m hm6, ↓hli t ht6, nI_add]
            · have hM1 : (stS (remG (stS g 1 s4) fs n) 0 s4).2.2.2.2 0 = mdl (g.1 0) := hM
              have hk : ∀ Q, ev sc 113 [.ref 154, .int 5] (Wd (stS (remG (stS g 1 s4) fs n) 0 s4)) Q = Q none (Wd (gDN (stS (remG (stS g 1 s4) fs n) 0 s4) 1 (segW (g.2.2.2.2 1) 9460 1892 (mdl (g.1 0))))) := fun Q => m_keep5 (sc := sc) (Q := Q) hM1
              have hpu1 := fun Q => m_puts_no (sc := sc) (Q := Q) (g := gDN (stS (remG (stS g 1 s4) fs n) 0 s4) 1 (segW (g.2.2.2.2 1) 9460 1892 (mdl (g.1 0)))) (s := g.1 0) (c := c) (m := m) hM1 (by omega) (by omega)
              rw [hl1] at hpu1
              have hpu2 := fun Q => m_puts_no (sc := sc) (Q := Q) (g := gDN (gDN (stS (remG (stS g 1 s4) fs n) 0 s4) 1 (segW (g.2.2.2.2 1) 9460 1892 (mdl (g.1 0)))) 0 (mdl s1)) (s := s1) (c := d) (m := t) gDN_at (by omega) (by omega)
              rw [hl2, gDN_tw] at hpu2
              have hre1 := fun Q => m_reasonOf (sc := sc) (Q := Q) (g := gDN (gDN (stS (remG (stS g 1 s4) fs n) 0 s4) 1 (segW (g.2.2.2.2 1) 9460 1892 (mdl (g.1 0)))) 0 (mdl s2)) hi2 gDN_at b1 b2 b3
              have hpu3 := fun Q => m_puts (sc := sc) (Q := Q) (g := gDN (gDN (stS (remG (stS g 1 s4) fs n) 0 s4) 1 (segW (g.2.2.2.2 1) 9460 1892 (mdl (g.1 0)))) 0 (mdl s2)) (s := s2) (c := c) (m := t) (r := r) gDN_at (by omega) (by omega) hr6
              rw [hl3, gDN_tw] at hpu3
              have hre2 := fun Q => m_reasonOf (sc := sc) (Q := Q) (g := gDN (gDN (stS (remG (stS g 1 s4) fs n) 0 s4) 1 (segW (g.2.2.2.2 1) 9460 1892 (mdl (g.1 0)))) 0 (mdl s3)) hi3 gDN_at b4' b5' b6'
              have hr5 := fun Q => m_record5 (sc := sc) (Q := Q) (g := stS (remG (stS g 1 s4) fs n) 0 s4) (A := (segW (g.2.2.2.2 1) 9460 1892 (mdl (g.1 0)))) (B := mdl s3) hh.2.1 hh.2.2.2.2.1
              have hpu4 := fun Q => m_puts (sc := sc) (Q := Q) (g := gD (gDN (gDN (gDN (stS (remG (stS g 1 s4) fs n) 0 s4) 1 (segW (g.2.2.2.2 1) 9460 1892 (mdl (g.1 0)))) 0 (mdl s3)) 1 (recK (segW (g.2.2.2.2 1) 9460 1892 (mdl (g.1 0))) n)) 0 (nI (recN n + 1))) (s := s3) (c := d) (m := m) (r := q) rfl (by omega) (by omega) hq6
              rw [hl4, gDN_4] at hpu4
              have hml := fun (m : Nat) (hm : m < 48) (Q : Option Value → ri_W → Prop) => m_lessonsIn (sc := sc) (Q := Q) (g := gDN (gD (gDN (stS (remG (stS g 1 s4) fs n) 0 s4) 1 (recK (segW (g.2.2.2.2 1) 9460 1892 (mdl (g.1 0))) n)) 0 (nI (recN n + 1))) 0 (mdl s4)) (s := s4) hi4 gDN_at hm
              simp only [↓en149, ↓u149_0, ↓u149_1, ↓u149_2, ↓u149_3, ↓u149_6, ↓u149_19, ↓u149_9, ↓u149_20, ↓u149_10, ↓u149_11, ↓u149_13, ↓u149_16, ↓u149_21, ↓u149_22, ↓u149_24, ↓u149_30, ↓u149_27, ↓u149_31, ↓u149_29, ↓u149_32, ↓u149_33, ↓u149_36, ↓u149_38, ↓u149_39, ↓u149_40, ↓u149_42, ↓u149_45, ↓u149_47, ↓u149_48, ↓u149_49, ↓u149_52, ↓u149_53, ↓u149_54, ↓u149_55, ↓u149_57, ↓u149_60, ↓u149_61, ↓u149_62, ↓u149_64, ↓u149_66, ↓u149_69, ↓u149_70, ↓u149_71, ↓u149_73, ↓u149_75, ↓u149_78, ↓u149_85, ↓u149_81, ↓u149_86, ↓u149_82, ↓u149_88, ↓u149_90, ↓u149_120, ↓u149_93, ↓u149_122, ↓u149_94, ↓u149_133, ↓u149_125, ↓u149_95, ↓u149_134, ↓u149_126, ↓u149_97, ↓u149_137, ↓u149_127, ↓u149_99, ↓u149_138, ↓u149_130, ↓u149_102, ↓u149_139, ↓u149_132, ↓u149_103, ↓u149_140, ↓u149_104, ↓u149_142, ↓u149_105, ↓u149_145, ↓u149_107, ↓u149_146, ↓u149_110, ↓u149_147, ↓u149_117, ↓u149_113, ↓u149_150, ↓u149_118, ↓u149_114, ↓u149_151, ↓u149_153, ↓u149_156, ↓u149_157, ↓d_o, ↓m_isLesson hI hM1, ↓c_v_some, ↓c_v_none, e, e', n10, n00, eq1, if_false, if_true, ↓mro1 _ hM1, ↓mro2 _ hM1, ↓hk, ↓hpu1, ↓hpu2, ↓hre1, f1, ↓hpu3, ↓hre2, f2, ↓c_b_1, ↓hr5, ↓hpu4, ↓hml m (show m < 48 by omega), ↓hml t (show t < 48 by omega), nI_add]
              rfl
          · refine ⟨-4, stS g 1 s3, gDN (stS g 1 s3) 1 (segW (g.2.2.2.2 1) 9460 1892 (mdl (g.1 0))), fun Q => ?_, fun Q => ?_, R_fail h hi3.1⟩
            · simp only [↓en72, ↓u72_0, ↓u72_1, ↓u72_4, ↓u72_5, ↓u72_6, ↓u72_9, ↓u72_25, ↓u72_12, ↓u72_26, ↓u72_13, ↓u72_16, ↓u72_17, ↓u72_19, ↓u72_22, ↓u72_27, ↓u72_28, ↓u72_30, ↓u72_36, ↓u72_33, ↓u72_37, ↓u72_35, ↓u72_40, ↓u72_41, ↓u72_42, ↓u72_45, ↓u72_47, ↓u72_48, ↓u72_51, ↓u72_52, ↓u72_54, ↓u72_57, ↓u72_59, ↓u72_60, ↓u72_63, ↓u72_64, ↓u72_67, ↓u72_70, ↓u72_71, ↓u72_74, ↓u72_75, ↓u72_76, ↓u72_78, ↓u72_79, ↓u72_82, ↓u72_83, ↓u72_86, ↓u72_87, ↓u72_89, ↓u72_91, ↓u72_92, ↓u72_95, ↓u72_96, ↓u72_99, ↓u72_100, ↓u72_102, ↓u72_104, ↓u72_107, ↓u72_113, ↓u72_110, ↓u72_114, ↓u72_112, ↓u72_117, ↓u72_118, ↓u72_120, ↓u72_122, ↓u72_123, ↓u72_126, ↓u72_127, ↓u72_130, ↓u72_131, ↓u72_132, ↓u72_134, ↓u72_137, ↓u72_143, ↓u72_140, ↓u72_144, ↓u72_142, ↓u72_147, ↓u72_148, ↓u72_149, ↓u72_151, ↓u72_152, ↓u72_155, ↓u72_156, ↓u72_159, ↓u72_160, ↓u72_163, ↓u72_164, ↓u72_167, ↓u72_168, ↓u72_171, ↓u72_173, ↓u72_176, ↓u72_177, ↓nf0, ↓nf1, ↓m_o, ↓s_o z7, ↓s_o (show 1 < 7 by decide), ↓s_knowsLesson z7 hI.2.1, ↓c_v_some, ↓c_v_none, e, e', n10, n00, eq1, if_false, if_true, ↓hro1, ↓hro2, ↓hcp, ↓hst1, ↓hst2, ↓hfr, f1, ↓hst3, ↓hfr2, f2]
            · have hM1 : (stS g 1 s3).2.2.2.2 0 = mdl (g.1 0) := hM
              have hk : ∀ Q, ev sc 113 [.ref 154, .int 5] (Wd (stS g 1 s3)) Q = Q none (Wd (gDN (stS g 1 s3) 1 (segW (g.2.2.2.2 1) 9460 1892 (mdl (g.1 0))))) := fun Q => m_keep5 (sc := sc) (Q := Q) hM1
              have hpu1 := fun Q => m_puts_no (sc := sc) (Q := Q) (g := gDN (stS g 1 s3) 1 (segW (g.2.2.2.2 1) 9460 1892 (mdl (g.1 0)))) (s := g.1 0) (c := c) (m := m) hM1 (by omega) (by omega)
              rw [hl1] at hpu1
              have hpu2 := fun Q => m_puts_no (sc := sc) (Q := Q) (g := gDN (gDN (stS g 1 s3) 1 (segW (g.2.2.2.2 1) 9460 1892 (mdl (g.1 0)))) 0 (mdl s1)) (s := s1) (c := d) (m := t) gDN_at (by omega) (by omega)
              rw [hl2, gDN_tw] at hpu2
              have hre1 := fun Q => m_reasonOf (sc := sc) (Q := Q) (g := gDN (gDN (stS g 1 s3) 1 (segW (g.2.2.2.2 1) 9460 1892 (mdl (g.1 0)))) 0 (mdl s2)) hi2 gDN_at b1 b2 b3
              have hpu3 := fun Q => m_puts (sc := sc) (Q := Q) (g := gDN (gDN (stS g 1 s3) 1 (segW (g.2.2.2.2 1) 9460 1892 (mdl (g.1 0)))) 0 (mdl s2)) (s := s2) (c := c) (m := t) (r := r) gDN_at (by omega) (by omega) hr6
              rw [hl3, gDN_tw] at hpu3
              have hre2 := fun Q => m_reasonOf (sc := sc) (Q := Q) (g := gDN (gDN (stS g 1 s3) 1 (segW (g.2.2.2.2 1) 9460 1892 (mdl (g.1 0)))) 0 (mdl s3)) hi3 gDN_at b4' b5' b6'
              have hb := fun Q => m_back (sc := sc) (Q := Q) (K := g.2.2.2.2 1) (s1 := s3) hM1
              simp only [↓en149, ↓u149_0, ↓u149_1, ↓u149_2, ↓u149_3, ↓u149_6, ↓u149_19, ↓u149_9, ↓u149_20, ↓u149_10, ↓u149_11, ↓u149_13, ↓u149_16, ↓u149_21, ↓u149_22, ↓u149_24, ↓u149_30, ↓u149_27, ↓u149_31, ↓u149_29, ↓u149_32, ↓u149_33, ↓u149_36, ↓u149_38, ↓u149_39, ↓u149_40, ↓u149_42, ↓u149_45, ↓u149_47, ↓u149_48, ↓u149_49, ↓u149_52, ↓u149_53, ↓u149_54, ↓u149_55, ↓u149_57, ↓u149_60, ↓u149_61, ↓u149_62, ↓u149_64, ↓u149_66, ↓u149_69, ↓u149_70, ↓u149_71, ↓u149_73, ↓u149_75, ↓u149_78, ↓u149_85, ↓u149_81, ↓u149_86, ↓u149_82, ↓u149_88, ↓u149_90, ↓u149_120, ↓u149_93, ↓u149_122, ↓u149_94, ↓u149_133, ↓u149_125, ↓u149_95, ↓u149_134, ↓u149_126, ↓u149_97, ↓u149_137, ↓u149_127, ↓u149_99, ↓u149_138, ↓u149_130, ↓u149_102, ↓u149_139, ↓u149_132, ↓u149_103, ↓u149_140, ↓u149_104, ↓u149_142, ↓u149_105, ↓u149_145, ↓u149_107, ↓u149_146, ↓u149_110, ↓u149_147, ↓u149_117, ↓u149_113, ↓u149_150, ↓u149_118, ↓u149_114, ↓u149_151, ↓u149_153, ↓u149_156, ↓u149_157, ↓d_o, ↓m_isLesson hI hM1, ↓c_v_some, ↓c_v_none, e, e', n10, n00, eq1, if_false, if_true, ↓mro1 _ hM1, ↓mro2 _ hM1, ↓hk, ↓hpu1, ↓hpu2, ↓hre1, f1, ↓hpu3, ↓hre2, f2, ↓hb]
        · refine ⟨-4, stS g 1 s2, gDN (stS g 1 s2) 1 (segW (g.2.2.2.2 1) 9460 1892 (mdl (g.1 0))), fun Q => ?_, fun Q => ?_, R_fail h hi2.1⟩
          · simp only [↓en72, ↓u72_0, ↓u72_1, ↓u72_4, ↓u72_5, ↓u72_6, ↓u72_9, ↓u72_25, ↓u72_12, ↓u72_26, ↓u72_13, ↓u72_16, ↓u72_17, ↓u72_19, ↓u72_22, ↓u72_27, ↓u72_28, ↓u72_30, ↓u72_36, ↓u72_33, ↓u72_37, ↓u72_35, ↓u72_40, ↓u72_41, ↓u72_42, ↓u72_45, ↓u72_47, ↓u72_48, ↓u72_51, ↓u72_52, ↓u72_54, ↓u72_57, ↓u72_59, ↓u72_60, ↓u72_63, ↓u72_64, ↓u72_67, ↓u72_70, ↓u72_71, ↓u72_74, ↓u72_75, ↓u72_76, ↓u72_78, ↓u72_79, ↓u72_82, ↓u72_83, ↓u72_86, ↓u72_87, ↓u72_89, ↓u72_91, ↓u72_92, ↓u72_95, ↓u72_96, ↓u72_99, ↓u72_100, ↓u72_102, ↓u72_104, ↓u72_107, ↓u72_113, ↓u72_110, ↓u72_114, ↓u72_112, ↓u72_117, ↓u72_118, ↓u72_120, ↓u72_122, ↓u72_123, ↓u72_126, ↓u72_127, ↓u72_130, ↓u72_131, ↓u72_132, ↓u72_134, ↓u72_137, ↓u72_143, ↓u72_140, ↓u72_144, ↓u72_142, ↓u72_147, ↓u72_148, ↓u72_149, ↓u72_151, ↓u72_152, ↓u72_155, ↓u72_156, ↓u72_159, ↓u72_160, ↓u72_163, ↓u72_164, ↓u72_167, ↓u72_168, ↓u72_171, ↓u72_173, ↓u72_176, ↓u72_177, ↓nf0, ↓nf1, ↓m_o, ↓s_o z7, ↓s_o (show 1 < 7 by decide), ↓s_knowsLesson z7 hI.2.1, ↓c_v_some, ↓c_v_none, e, e', n10, n00, eq1, if_false, if_true, ↓hro1, ↓hro2, ↓hcp, ↓hst1, ↓hst2, ↓hfr, f1]
          · have hM1 : (stS g 1 s2).2.2.2.2 0 = mdl (g.1 0) := hM
            have hk : ∀ Q, ev sc 113 [.ref 154, .int 5] (Wd (stS g 1 s2)) Q = Q none (Wd (gDN (stS g 1 s2) 1 (segW (g.2.2.2.2 1) 9460 1892 (mdl (g.1 0))))) := fun Q => m_keep5 (sc := sc) (Q := Q) hM1
            have hpu1 := fun Q => m_puts_no (sc := sc) (Q := Q) (g := gDN (stS g 1 s2) 1 (segW (g.2.2.2.2 1) 9460 1892 (mdl (g.1 0)))) (s := g.1 0) (c := c) (m := m) hM1 (by omega) (by omega)
            rw [hl1] at hpu1
            have hpu2 := fun Q => m_puts_no (sc := sc) (Q := Q) (g := gDN (gDN (stS g 1 s2) 1 (segW (g.2.2.2.2 1) 9460 1892 (mdl (g.1 0)))) 0 (mdl s1)) (s := s1) (c := d) (m := t) gDN_at (by omega) (by omega)
            rw [hl2, gDN_tw] at hpu2
            have hre1 := fun Q => m_reasonOf (sc := sc) (Q := Q) (g := gDN (gDN (stS g 1 s2) 1 (segW (g.2.2.2.2 1) 9460 1892 (mdl (g.1 0)))) 0 (mdl s2)) hi2 gDN_at b1 b2 b3
            have hb := fun Q => m_back (sc := sc) (Q := Q) (K := g.2.2.2.2 1) (s1 := s2) hM1
            simp only [↓en149, ↓u149_0, ↓u149_1, ↓u149_2, ↓u149_3, ↓u149_6, ↓u149_19, ↓u149_9, ↓u149_20, ↓u149_10, ↓u149_11, ↓u149_13, ↓u149_16, ↓u149_21, ↓u149_22, ↓u149_24, ↓u149_30, ↓u149_27, ↓u149_31, ↓u149_29, ↓u149_32, ↓u149_33, ↓u149_36, ↓u149_38, ↓u149_39, ↓u149_40, ↓u149_42, ↓u149_45, ↓u149_47, ↓u149_48, ↓u149_49, ↓u149_52, ↓u149_53, ↓u149_54, ↓u149_55, ↓u149_57, ↓u149_60, ↓u149_61, ↓u149_62, ↓u149_64, ↓u149_66, ↓u149_69, ↓u149_70, ↓u149_71, ↓u149_73, ↓u149_75, ↓u149_78, ↓u149_85, ↓u149_81, ↓u149_86, ↓u149_82, ↓u149_88, ↓u149_90, ↓u149_120, ↓u149_93, ↓u149_122, ↓u149_94, ↓u149_133, ↓u149_125, ↓u149_95, ↓u149_134, ↓u149_126, ↓u149_97, ↓u149_137, ↓u149_127, ↓u149_99, ↓u149_138, ↓u149_130, ↓u149_102, ↓u149_139, ↓u149_132, ↓u149_103, ↓u149_140, ↓u149_104, ↓u149_142, ↓u149_105, ↓u149_145, ↓u149_107, ↓u149_146, ↓u149_110, ↓u149_147, ↓u149_117, ↓u149_113, ↓u149_150, ↓u149_118, ↓u149_114, ↓u149_151, ↓u149_153, ↓u149_156, ↓u149_157, ↓d_o, ↓m_isLesson hI hM1, ↓c_v_some, ↓c_v_none, e, e', n10, n00, eq1, if_false, if_true, ↓mro1 _ hM1, ↓mro2 _ hM1, ↓hk, ↓hpu1, ↓hpu2, ↓hre1, f1, ↓hb]
end
