/-! THE TWO AGREE: teachers, rooms, holidays and bars are set -/
section
variable {sc : Nat × (Nat → Int32)} {g : SG} {fs n j : Nat} {Q : Option Value → ri_W → Prop}
theorem ii01 {v a b : Int32} : ii v a b = 1 ∨ ii v a b = 0 := by
  unfold ii
  repeat' (first | exact .inl rfl | exact .inr rfl | split)
theorem w_tf (hj : j < 7) {t k : Nat} {v : Int32} (ht : t < 8) (hk : k < 2) : ev sc 2 [.ref (bs j + 1), .int (nI t), .int (nI k), .int v] (Wd g) Q = Q none (Wd (stS g j (sN (g.1 j) 0 (upF ((g.1 j).2.1 0) (t * 2 + k) v)))) := by
  have := s_nset (sc := sc) (w := Wd g) (Q := Q) (wd := 2) (i := t) (k := k) (v := v) (no0 hj) (ni0 hj) hk (by omega) (by decide) (by decide)
  rw [ns0 hj] at this
  exact this
theorem w_tf0 (hj : j < 7) {t : Nat} {v : Int32} (ht : t < 8) : ev sc 2 [.ref (bs j + 1), .int (nI t), .int 0, .int v] (Wd g) Q = Q none (Wd (stS g j (sN (g.1 j) 0 (upF ((g.1 j).2.1 0) (t * 2 + 0) v)))) := w_tf (k := 0) hj ht (by decide)
theorem w_tf1 (hj : j < 7) {t : Nat} {v : Int32} (ht : t < 8) : ev sc 2 [.ref (bs j + 1), .int (nI t), .int 1, .int v] (Wd g) Q = Q none (Wd (stS g j (sN (g.1 j) 0 (upF ((g.1 j).2.1 0) (t * 2 + 1) v)))) := w_tf (k := 1) hj ht (by decide)
theorem w_re (hj : j < 7) {t : Nat} {v : Int32} (ht : t < 6) : ev sc 2 [.ref (bs j + 3), .int (nI t), .int 0, .int v] (Wd g) Q = Q none (Wd (stS g j (sN (g.1 j) 1 (upF ((g.1 j).2.1 1) (t * 1 + 0) v)))) := by
  have := s_nset (sc := sc) (w := Wd g) (Q := Q) (wd := 1) (i := t) (k := 0) (v := v) (no1 hj) (ni1 hj) (by decide) (by omega) (by decide) (by decide)
  rw [ns1 hj] at this
  exact this
theorem w_cf (hj : j < 7) {t k : Nat} {v : Int32} (ht : t < 20) (hk : k < 6) : ev sc 2 [.ref (bs j + 5), .int (nI t), .int (nI k), .int v] (Wd g) Q = Q none (Wd (stS g j (sN (g.1 j) 2 (upF ((g.1 j).2.1 2) (t * 6 + k) v)))) := by
  have := s_nset (sc := sc) (w := Wd g) (Q := Q) (wd := 6) (i := t) (k := k) (v := v) (no2 hj) (ni2 hj) hk (by omega) (by decide) (by decide)
  rw [ns2 hj] at this
  exact this
theorem sN_tw {s : SV} {i : Nat} {f h : Nat → Int32} : sN (sN s i f) i h = sN s i h := by
  unfold sN
  show (s.1, upF (upF s.2.1 i f) i h, s.2.2) = _
  rw [upF_tw]
theorem mdl_tf {s : SV} {t k : Nat} {v : Int32} (ht : t < 8) (hk : k < 2) : upF (mdl s) (6 + 2 * t + k) v = mdl (sN s 0 (upF (s.2.1 0) (t * 2 + k) v)) := by
  rw [← mdl_sN0 (by omega), show 6 + 2 * t + k = 6 + (t * 2 + k) by omega]
theorem mdl_re {s : SV} {t : Nat} {v : Int32} (ht : t < 6) : upF (mdl s) (22 + t) v = mdl (sN s 1 (upF (s.2.1 1) (t * 1 + 0) v)) := by
  rw [← mdl_sN1 (by omega), show t * 1 + 0 = t by omega]
theorem mdl_cf {s : SV} {t k : Nat} {v : Int32} (ht : t < 20) (hk : k < 6) : upF (mdl s) (28 + 6 * t + k) v = mdl (sN s 2 (upF (s.2.1 2) (t * 6 + k) v)) := by
  rw [← mdl_sN2 (by omega), show 28 + 6 * t + k = 28 + (t * 6 + k) by omega]
theorem o_addTeacher (h : R g) {a b : Int32} : both sc 64 128 [.int a, .int b] g := by
  have hI := h.2.1
  have hM := h.2.2.1
  have hT8 := nT8 hI
  obtain ⟨fs, n, hh⟩ := h.2.2.2.1
  rcases ii01 (v := a) (a := 1) (b := 40) with a2 | a2
  · rcases ii01 (v := b) (a := 1) (b := 6) with b2 | b2
    · by_cases e : nT (g.1 0) = 8
      · have e1 : (g.1 0).1 3 = 8 := by rw [nT_eq hI, e]; rfl
        refine both_q h (v := -3) (fun Q => ?_) (fun Q => ?_)
        · simp only [↓en64, ↓u64_0, ↓u64_1, ↓u64_2, ↓u64_4, ↓u64_7, ↓u64_20, ↓u64_10, ↓u64_22, ↓u64_11, ↓u64_12, ↓u64_14, ↓u64_17, ↓u64_23, ↓u64_24, ↓u64_27, ↓u64_30, ↓u64_32, ↓u64_38, ↓u64_35, ↓u64_39, ↓u64_37, ↓u64_42, ↓u64_43, ↓u64_46, ↓u64_49, ↓u64_50, ↓u64_51, ↓u64_54, ↓u64_57, ↓u64_58, ↓u64_59, ↓u64_60, ↓u64_63, ↓u64_64, ↓u64_67, ↓u64_70, ↓u64_71, ↓u64_72, ↓u64_73, ↓u64_76, ↓u64_77, ↓u64_80, ↓u64_81, ↓u64_82, ↓u64_83, ↓u64_86, ↓u64_87, ↓s_isIn, ↓c_v_some, a2, b2, n10, ↓nf0, ↓sf3 z7, e1, show ((8 : Int32) < 8) = False by decide, show ((8 : Int32) ≤ 8) = True by decide, if_true, if_false]
        · simp only [↓en128, ↓u128_0, ↓u128_1, ↓u128_2, ↓u128_4, ↓u128_7, ↓u128_20, ↓u128_10, ↓u128_22, ↓u128_11, ↓u128_12, ↓u128_14, ↓u128_17, ↓u128_23, ↓u128_24, ↓u128_27, ↓u128_28, ↓u128_29, ↓u128_31, ↓u128_37, ↓u128_34, ↓u128_38, ↓u128_36, ↓u128_41, ↓u128_43, ↓u128_44, ↓u128_45, ↓u128_48, ↓u128_49, ↓u128_50, ↓u128_51, ↓u128_52, ↓u128_53, ↓u128_54, ↓u128_57, ↓u128_58, ↓u128_59, ↓u128_60, ↓u128_61, ↓u128_64, ↓u128_65, ↓u128_66, ↓u128_67, ↓u128_68, ↓u128_69, ↓u128_70, ↓u128_73, ↓u128_74, ↓u128_75, ↓u128_76, ↓u128_77, ↓u128_78, ↓u128_79, ↓u128_80, ↓u128_83, ↓u128_84, ↓u128_85, ↓u128_86, ↓u128_87, ↓m_isIn, ↓c_v_some, a2, b2, n10, ↓df0, ↓dI0, r3, m3, if_true, if_false, hM, mdl_n (show 3 < 6 by decide), e1]
      · have hg : nT (g.1 0) < 8 := by omega
        have c1 : nI (nT (g.1 0)) < 8 := nI_lt (b := 8) hg (by decide)
        have c2 : ¬ nI (nT (g.1 0)) = 8 := fun e2 => e ((nI_eq (b := 8) (by omega) (by decide)).mp e2)
        have hi := inv_teacher hI (a := a) (b := b) hg
        rw [sN_tw] at hi
        refine both_act h hh (v := nI (nT (g.1 0))) hi (fun Q => ?_) (fun Q => ?_)
        · simp only [↓en64, ↓u64_0, ↓u64_1, ↓u64_2, ↓u64_4, ↓u64_7, ↓u64_20, ↓u64_10, ↓u64_22, ↓u64_11, ↓u64_12, ↓u64_14, ↓u64_17, ↓u64_23, ↓u64_24, ↓u64_27, ↓u64_30, ↓u64_32, ↓u64_38, ↓u64_35, ↓u64_39, ↓u64_37, ↓u64_42, ↓u64_43, ↓u64_46, ↓u64_49, ↓u64_50, ↓u64_51, ↓u64_54, ↓u64_57, ↓u64_58, ↓u64_59, ↓u64_60, ↓u64_63, ↓u64_64, ↓u64_67, ↓u64_70, ↓u64_71, ↓u64_72, ↓u64_73, ↓u64_76, ↓u64_77, ↓u64_80, ↓u64_81, ↓u64_82, ↓u64_83, ↓u64_86, ↓u64_87, ↓s_isIn, ↓c_v_some, a2, b2, n10, if_false, ↓nf0, ↓sf3 z7, ↓sf6 z7, nT_eq hI, c1, if_true, ↓m_o, ↓n_o0 z7, ↓c_rem h hh, ↓c_v_none, remG_0, w_tf0 z7 hg, w_tf1 z7 hg, stS_at, stS_twice, sN_at, sN_tw, sp3 z7, nI_1]
        · generalize hs' : sS (sN (g.1 0) 0 (upF (upF ((g.1 0).2.1 0) (nT (g.1 0) * 2 + 0) a) (nT (g.1 0) * 2 + 1) b)) 3 (nI (nT (g.1 0) + 1)) = s'
          have hv : s'.1 3 = nI (nT (g.1 0) + 1) := by rw [← hs', sS_at]
          have hM2 : (stS (remG g fs n) 0 s').2.2.2.2 0 = mdl (g.1 0) := hM
          have hM3 : (rec2 (stS (remG g fs n) 0 s') n).2.2.2.2 0 = mdl (g.1 0) := hM
          have hr := fun Q => m_rec2 (sc := sc) (Q := Q) (g := stS (remG g fs n) 0 s') hh.2.1 hh.2.2.2.2.1
          simp only [↓en128, ↓u128_0, ↓u128_1, ↓u128_2, ↓u128_4, ↓u128_7, ↓u128_20, ↓u128_10, ↓u128_22, ↓u128_11, ↓u128_12, ↓u128_14, ↓u128_17, ↓u128_23, ↓u128_24, ↓u128_27, ↓u128_28, ↓u128_29, ↓u128_31, ↓u128_37, ↓u128_34, ↓u128_38, ↓u128_36, ↓u128_41, ↓u128_43, ↓u128_44, ↓u128_45, ↓u128_48, ↓u128_49, ↓u128_50, ↓u128_51, ↓u128_52, ↓u128_53, ↓u128_54, ↓u128_57, ↓u128_58, ↓u128_59, ↓u128_60, ↓u128_61, ↓u128_64, ↓u128_65, ↓u128_66, ↓u128_67, ↓u128_68, ↓u128_69, ↓u128_70, ↓u128_73, ↓u128_74, ↓u128_75, ↓u128_76, ↓u128_77, ↓u128_78, ↓u128_79, ↓u128_80, ↓u128_83, ↓u128_84, ↓u128_85, ↓u128_86, ↓u128_87, ↓m_isIn, ↓c_v_some, a2, b2, n10, ↓df0, ↓dI0, r3, m3, if_true, if_false, hM2, mdl_n (show 3 < 6 by decide), nT_eq hI, c2, ↓d_o, ↓hr, ↓c_v_none, hM3, nI_1, x6, x61, nAt (show 6 + 2 * nT (g.1 0) + 0 < 1892 by omega) (by decide), nI_clamp (show 6 + 2 * nT (g.1 0) + 0 < 2 ^ 31 by omega), nAt (show 6 + 2 * nT (g.1 0) + 1 < 1892 by omega) (by decide), nI_clamp (show 6 + 2 * nT (g.1 0) + 1 < 2 ^ 31 by omega), upF_eq, ds0, gDN_at, gDN_tw, mdl_tf hg (show 0 < 2 by decide), mdl_tf hg (show 1 < 2 by decide), mdl_sS (show 3 < 6 by decide), sN_at, sN_tw, sN_1, sS_at, nI_pred, hs', hv]
    · refine both_q h (v := -2) (fun Q => ?_) (fun Q => ?_)
      · simp only [↓en64, ↓u64_0, ↓u64_1, ↓u64_2, ↓u64_4, ↓u64_7, ↓u64_20, ↓u64_10, ↓u64_22, ↓u64_11, ↓u64_12, ↓u64_14, ↓u64_17, ↓u64_23, ↓u64_24, ↓u64_27, ↓u64_30, ↓u64_32, ↓u64_38, ↓u64_35, ↓u64_39, ↓u64_37, ↓u64_42, ↓u64_43, ↓u64_46, ↓u64_49, ↓u64_50, ↓u64_51, ↓u64_54, ↓u64_57, ↓u64_58, ↓u64_59, ↓u64_60, ↓u64_63, ↓u64_64, ↓u64_67, ↓u64_70, ↓u64_71, ↓u64_72, ↓u64_73, ↓u64_76, ↓u64_77, ↓u64_80, ↓u64_81, ↓u64_82, ↓u64_83, ↓u64_86, ↓u64_87, ↓s_isIn, ↓c_v_some, a2, b2, n10, n00, if_true, if_false]
      · simp only [↓en128, ↓u128_0, ↓u128_1, ↓u128_2, ↓u128_4, ↓u128_7, ↓u128_20, ↓u128_10, ↓u128_22, ↓u128_11, ↓u128_12, ↓u128_14, ↓u128_17, ↓u128_23, ↓u128_24, ↓u128_27, ↓u128_28, ↓u128_29, ↓u128_31, ↓u128_37, ↓u128_34, ↓u128_38, ↓u128_36, ↓u128_41, ↓u128_43, ↓u128_44, ↓u128_45, ↓u128_48, ↓u128_49, ↓u128_50, ↓u128_51, ↓u128_52, ↓u128_53, ↓u128_54, ↓u128_57, ↓u128_58, ↓u128_59, ↓u128_60, ↓u128_61, ↓u128_64, ↓u128_65, ↓u128_66, ↓u128_67, ↓u128_68, ↓u128_69, ↓u128_70, ↓u128_73, ↓u128_74, ↓u128_75, ↓u128_76, ↓u128_77, ↓u128_78, ↓u128_79, ↓u128_80, ↓u128_83, ↓u128_84, ↓u128_85, ↓u128_86, ↓u128_87, ↓m_isIn, ↓c_v_some, a2, b2, n10, n00, if_true, if_false]
  · refine both_q h (v := -2) (fun Q => ?_) (fun Q => ?_)
    · simp only [↓en64, ↓u64_0, ↓u64_1, ↓u64_2, ↓u64_4, ↓u64_7, ↓u64_20, ↓u64_10, ↓u64_22, ↓u64_11, ↓u64_12, ↓u64_14, ↓u64_17, ↓u64_23, ↓u64_24, ↓u64_27, ↓u64_30, ↓u64_32, ↓u64_38, ↓u64_35, ↓u64_39, ↓u64_37, ↓u64_42, ↓u64_43, ↓u64_46, ↓u64_49, ↓u64_50, ↓u64_51, ↓u64_54, ↓u64_57, ↓u64_58, ↓u64_59, ↓u64_60, ↓u64_63, ↓u64_64, ↓u64_67, ↓u64_70, ↓u64_71, ↓u64_72, ↓u64_73, ↓u64_76, ↓u64_77, ↓u64_80, ↓u64_81, ↓u64_82, ↓u64_83, ↓u64_86, ↓u64_87, ↓s_isIn, ↓c_v_some, a2, n00, if_true]
    · simp only [↓en128, ↓u128_0, ↓u128_1, ↓u128_2, ↓u128_4, ↓u128_7, ↓u128_20, ↓u128_10, ↓u128_22, ↓u128_11, ↓u128_12, ↓u128_14, ↓u128_17, ↓u128_23, ↓u128_24, ↓u128_27, ↓u128_28, ↓u128_29, ↓u128_31, ↓u128_37, ↓u128_34, ↓u128_38, ↓u128_36, ↓u128_41, ↓u128_43, ↓u128_44, ↓u128_45, ↓u128_48, ↓u128_49, ↓u128_50, ↓u128_51, ↓u128_52, ↓u128_53, ↓u128_54, ↓u128_57, ↓u128_58, ↓u128_59, ↓u128_60, ↓u128_61, ↓u128_64, ↓u128_65, ↓u128_66, ↓u128_67, ↓u128_68, ↓u128_69, ↓u128_70, ↓u128_73, ↓u128_74, ↓u128_75, ↓u128_76, ↓u128_77, ↓u128_78, ↓u128_79, ↓u128_80, ↓u128_83, ↓u128_84, ↓u128_85, ↓u128_86, ↓u128_87, ↓m_isIn, ↓c_v_some, a2, n00, if_true]
theorem o_addRoom (h : R g) {a : Int32} : both sc 65 129 [.int a] g := by
  have hI := h.2.1
  have hM := h.2.2.1
  have hR6 := nR6 hI
  obtain ⟨fs, n, hh⟩ := h.2.2.2.1
  rcases ii01 (v := a) (a := 0) (b := 15) with a2 | a2
  · by_cases e : nR (g.1 0) = 6
    · have e1 : (g.1 0).1 4 = 6 := by rw [nR_eq hI, e]; rfl
      refine both_q h (v := -3) (fun Q => ?_) (fun Q => ?_)
      · simp only [↓en65, ↓u65_0, ↓u65_1, ↓u65_2, ↓u65_4, ↓u65_7, ↓u65_13, ↓u65_10, ↓u65_14, ↓u65_12, ↓u65_17, ↓u65_20, ↓u65_22, ↓u65_28, ↓u65_25, ↓u65_29, ↓u65_27, ↓u65_32, ↓u65_33, ↓u65_36, ↓u65_39, ↓u65_40, ↓u65_41, ↓u65_44, ↓u65_47, ↓u65_48, ↓u65_49, ↓u65_50, ↓u65_53, ↓u65_54, ↓u65_57, ↓u65_58, ↓u65_59, ↓u65_60, ↓u65_63, ↓u65_64, ↓s_isIn, ↓c_v_some, a2, n10, ↓nf0, ↓sf4 z7, e1, show ((6 : Int32) < 6) = False by decide, show ((6 : Int32) ≤ 6) = True by decide, if_true, if_false]
      · simp only [↓en129, ↓u129_0, ↓u129_1, ↓u129_2, ↓u129_4, ↓u129_7, ↓u129_13, ↓u129_10, ↓u129_14, ↓u129_12, ↓u129_17, ↓u129_18, ↓u129_19, ↓u129_21, ↓u129_27, ↓u129_24, ↓u129_28, ↓u129_26, ↓u129_31, ↓u129_32, ↓u129_35, ↓u129_37, ↓u129_38, ↓u129_41, ↓u129_42, ↓u129_43, ↓u129_44, ↓u129_45, ↓u129_46, ↓u129_47, ↓u129_50, ↓u129_51, ↓u129_52, ↓u129_53, ↓u129_54, ↓u129_55, ↓u129_56, ↓u129_57, ↓u129_60, ↓u129_61, ↓u129_62, ↓u129_63, ↓u129_64, ↓m_isIn, ↓c_v_some, a2, n10, ↓df0, ↓dI0, r4, m4, if_true, if_false, hM, mdl_n (show 4 < 6 by decide), e1]
    · have hg : nR (g.1 0) < 6 := by omega
      have c1 : nI (nR (g.1 0)) < 6 := nI_lt (b := 6) hg (by decide)
      have c2 : ¬ nI (nR (g.1 0)) = 6 := fun e2 => e ((nI_eq (b := 6) (by omega) (by decide)).mp e2)
      refine both_act h hh (v := nI (nR (g.1 0))) (inv_room hI (a := a) hg) (fun Q => ?_) (fun Q => ?_)
      · simp only [↓en65, ↓u65_0, ↓u65_1, ↓u65_2, ↓u65_4, ↓u65_7, ↓u65_13, ↓u65_10, ↓u65_14, ↓u65_12, ↓u65_17, ↓u65_20, ↓u65_22, ↓u65_28, ↓u65_25, ↓u65_29, ↓u65_27, ↓u65_32, ↓u65_33, ↓u65_36, ↓u65_39, ↓u65_40, ↓u65_41, ↓u65_44, ↓u65_47, ↓u65_48, ↓u65_49, ↓u65_50, ↓u65_53, ↓u65_54, ↓u65_57, ↓u65_58, ↓u65_59, ↓u65_60, ↓u65_63, ↓u65_64, ↓s_isIn, ↓c_v_some, a2, n10, if_false, ↓nf0, ↓sf4 z7, ↓sf7 z7, nR_eq hI, c1, if_true, ↓m_o, ↓n_o1 z7, ↓c_rem h hh, ↓c_v_none, remG_0, w_re z7 hg, stS_at, stS_twice, sp4 z7, nI_1]
      · generalize hs' : sS (sN (g.1 0) 1 (upF ((g.1 0).2.1 1) (nR (g.1 0) * 1 + 0) a)) 4 (nI (nR (g.1 0) + 1)) = s'
        have hv : s'.1 4 = nI (nR (g.1 0) + 1) := by rw [← hs', sS_at]
        have hM2 : (stS (remG g fs n) 0 s').2.2.2.2 0 = mdl (g.1 0) := hM
        have hM3 : (rec2 (stS (remG g fs n) 0 s') n).2.2.2.2 0 = mdl (g.1 0) := hM
        have hr := fun Q => m_rec2 (sc := sc) (Q := Q) (g := stS (remG g fs n) 0 s') hh.2.1 hh.2.2.2.2.1
        simp only [↓en129, ↓u129_0, ↓u129_1, ↓u129_2, ↓u129_4, ↓u129_7, ↓u129_13, ↓u129_10, ↓u129_14, ↓u129_12, ↓u129_17, ↓u129_18, ↓u129_19, ↓u129_21, ↓u129_27, ↓u129_24, ↓u129_28, ↓u129_26, ↓u129_31, ↓u129_32, ↓u129_35, ↓u129_37, ↓u129_38, ↓u129_41, ↓u129_42, ↓u129_43, ↓u129_44, ↓u129_45, ↓u129_46, ↓u129_47, ↓u129_50, ↓u129_51, ↓u129_52, ↓u129_53, ↓u129_54, ↓u129_55, ↓u129_56, ↓u129_57, ↓u129_60, ↓u129_61, ↓u129_62, ↓u129_63, ↓u129_64, ↓m_isIn, ↓c_v_some, a2, n10, ↓df0, ↓dI0, r4, m4, if_true, if_false, hM2, mdl_n (show 4 < 6 by decide), nR_eq hI, c2, ↓d_o, ↓hr, ↓c_v_none, hM3, nI_1, x22, nAt (show 22 + nR (g.1 0) < 1892 by omega) (by decide), nI_clamp (show 22 + nR (g.1 0) < 2 ^ 31 by omega), upF_eq, ds0, gDN_at, gDN_tw, mdl_re hg, mdl_sS (show 4 < 6 by decide), sN_at, sN_tw, sN_1, sS_at, nI_pred, hs', hv]
  · refine both_q h (v := -2) (fun Q => ?_) (fun Q => ?_)
    · simp only [↓en65, ↓u65_0, ↓u65_1, ↓u65_2, ↓u65_4, ↓u65_7, ↓u65_13, ↓u65_10, ↓u65_14, ↓u65_12, ↓u65_17, ↓u65_20, ↓u65_22, ↓u65_28, ↓u65_25, ↓u65_29, ↓u65_27, ↓u65_32, ↓u65_33, ↓u65_36, ↓u65_39, ↓u65_40, ↓u65_41, ↓u65_44, ↓u65_47, ↓u65_48, ↓u65_49, ↓u65_50, ↓u65_53, ↓u65_54, ↓u65_57, ↓u65_58, ↓u65_59, ↓u65_60, ↓u65_63, ↓u65_64, ↓s_isIn, ↓c_v_some, a2, n00, if_true]
    · simp only [↓en129, ↓u129_0, ↓u129_1, ↓u129_2, ↓u129_4, ↓u129_7, ↓u129_13, ↓u129_10, ↓u129_14, ↓u129_12, ↓u129_17, ↓u129_18, ↓u129_19, ↓u129_21, ↓u129_27, ↓u129_24, ↓u129_28, ↓u129_26, ↓u129_31, ↓u129_32, ↓u129_35, ↓u129_37, ↓u129_38, ↓u129_41, ↓u129_42, ↓u129_43, ↓u129_44, ↓u129_45, ↓u129_46, ↓u129_47, ↓u129_50, ↓u129_51, ↓u129_52, ↓u129_53, ↓u129_54, ↓u129_55, ↓u129_56, ↓u129_57, ↓u129_60, ↓u129_61, ↓u129_62, ↓u129_63, ↓u129_64, ↓m_isIn, ↓c_v_some, a2, n00, if_true]
end
