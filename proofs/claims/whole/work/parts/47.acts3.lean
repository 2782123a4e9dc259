/-! THE TWO AGREE: holidays, bars, joins -/
section
variable {sc : Nat × (Nat → Int32)} {g : SG} {fs n j : Nat} {Q : Option Value → ri_W → Prop}
theorem rec2_now {s' : SV} (hM : g.2.2.2.2 0 = mdl (g.1 0)) : (rec2 (stS (remG g fs n) 0 s') n).2.2.2.2 0 = mdl (g.1 0) := hM
theorem stS_now {s' : SV} (hM : g.2.2.2.2 0 = mdl (g.1 0)) : (stS (remG g fs n) 0 s').2.2.2.2 0 = mdl (g.1 0) := hM

theorem mdl_bar1 {s : SV} {t m : Nat} (ht : t < 8) (hm : m < 48) : upF (mdl s) (1108 + 48 * t + m) 1 = mdl (sJs s 1 t m true) := mdl_bar (b := true) ht hm
theorem mdl_hol1 {s : SV} {d : Nat} (hd : d < 400) : upF (mdl s) (1492 + d) 1 = mdl (sJs s 0 (d / 64) (d % 64) true) := mdl_hol (b := true) hd
theorem s_setHoliday1 (hj : j < 7) {d : Nat} (hd : d < 400) : ev sc 19 [.ref (bs j), .int (nI d), .int 1] (Wd g) Q = Q none (Wd (stS g j (sJs (g.1 j) 0 (d / 64) (d % 64) true))) := s_setHoliday (b := true) hj hd
theorem w_B1 (hj : j < 7) {i m : Nat} (hi : i < 8) : ev sc 9 [.ref (bs j + 9), .int (nI i), .int (nI m), .int 1] (Wd g) Q = Q none (Wd (stS g j (sJs (g.1 j) 1 i m true))) := w_B (b := true) hj hi
theorem o_holiday1 (h : R g) {x : Int32} : both sc 62 123 [.int x, .int 1] g := by
  have hI := h.2.1
  have hM := h.2.2.1
  obtain ⟨fs, n, hh⟩ := h.2.2.2.1
  rcases ii_399 (x := x) with ⟨d, hd, rfl, d2⟩ | d2
  · by_cases e : hol (g.1 0) d = true
    · refine both_q h (v := -5) (fun Q => ?_) (fun Q => ?_)
      · simp only [↓en62, ↓u62_0, ↓u62_1, ↓u62_4, ↓u62_10, ↓u62_7, ↓u62_11, ↓u62_9, ↓u62_14, ↓u62_15, ↓u62_18, ↓u62_19, ↓u62_25, ↓u62_22, ↓u62_26, ↓u62_24, ↓u62_29, ↓u62_30, ↓u62_33, ↓u62_34, ↓u62_35, ↓u62_38, ↓u62_39, ↓u62_42, ↓u62_45, ↓c_isDate, ↓nf0, ↓s_o z7, ↓c_v_some, d2, n10, if_false, ↓s_isHoliday z7 hd, e, bI_t, bI_f, if_true]
      · simp only [↓en123, ↓u123_0, ↓u123_1, ↓u123_2, ↓u123_5, ↓u123_8, ↓u123_14, ↓u123_11, ↓u123_15, ↓u123_13, ↓u123_22, ↓u123_18, ↓u123_23, ↓u123_19, ↓u123_24, ↓u123_25, ↓u123_28, ↓u123_31, ↓u123_32, ↓u123_33, ↓u123_34, ↓u123_35, ↓u123_41, ↓u123_38, ↓u123_42, ↓u123_40, ↓u123_45, ↓u123_46, ↓u123_49, ↓u123_52, ↓u123_53, ↓u123_54, ↓u123_55, ↓u123_56, ↓u123_57, ↓u123_60, ↓u123_63, ↓m_isIn, ↓df0, ↓dI0, hM, ↓c_v_some, d2, n10, n00, if_false, x1492, nAt (show 1492 + d < 1892 by omega) (by decide), nI_clamp (show 1492 + d < 2 ^ 31 by omega), mdl_h hd, e, bI_t, bI_f, if_true]
    · have e1 : ¬ bI (hol (g.1 0) d) = 1 := by
        rw [bI_1]
        exact e
      have hi := inv_holiday hI (d := d) (b := true) hd
      refine both_act h hh (v := nI (ct (hol (sJs (g.1 0) 0 (d / 64) (d % 64) true)) 400)) hi (fun Q => ?_) (fun Q => ?_)
      · have ha : ∀ Q, ev sc 20 [.ref (bs 0)] (Wd (stS (remG g fs n) 0 (sJs (g.1 0) 0 (d / 64) (d % 64) true))) Q = Q (some (.int (nI (ct (hol (sJs (g.1 0) 0 (d / 64) (d % 64) true)) 400)))) (Wd (stS (remG g fs n) 0 (sJs (g.1 0) 0 (d / 64) (d % 64) true))) := fun Q => by
          rw [s_allHolidays z7, stS_at, holAll_eq hi]
        simp only [↓en62, ↓u62_0, ↓u62_1, ↓u62_4, ↓u62_10, ↓u62_7, ↓u62_11, ↓u62_9, ↓u62_14, ↓u62_15, ↓u62_18, ↓u62_19, ↓u62_25, ↓u62_22, ↓u62_26, ↓u62_24, ↓u62_29, ↓u62_30, ↓u62_33, ↓u62_34, ↓u62_35, ↓u62_38, ↓u62_39, ↓u62_42, ↓u62_45, ↓c_isDate, ↓nf0, ↓s_o z7, ↓c_v_some, d2, n10, if_false, ↓s_isHoliday z7 hd, e1, ↓m_o, ↓c_rem h hh, ↓c_v_none, s_setHoliday1 z7 hd, remG_0, ha]
      · have ha : ∀ Q, ev sc 122 [.ref 154, .int 400] (Wd (gDN (rec2 (stS (remG g fs n) 0 (sJs (g.1 0) 0 (d / 64) (d % 64) true)) n) 0 (mdl (sJs (g.1 0) 0 (d / 64) (d % 64) true)))) Q = Q (some (.int (nI (ct (hol (sJs (g.1 0) 0 (d / 64) (d % 64) true)) 400)))) (Wd (gDN (rec2 (stS (remG g fs n) 0 (sJs (g.1 0) 0 (d / 64) (d % 64) true)) n) 0 (mdl (sJs (g.1 0) 0 (d / 64) (d % 64) true)))) := fun Q => m_holidays (e := 400) gDN_at (by decide)
        have hr := fun Q => m_rec2 (sc := sc) (Q := Q) (g := stS (remG g fs n) 0 (sJs (g.1 0) 0 (d / 64) (d % 64) true)) hh.2.1 hh.2.2.2.2.1
        simp only [↓en123, ↓u123_0, ↓u123_1, ↓u123_2, ↓u123_5, ↓u123_8, ↓u123_14, ↓u123_11, ↓u123_15, ↓u123_13, ↓u123_22, ↓u123_18, ↓u123_23, ↓u123_19, ↓u123_24, ↓u123_25, ↓u123_28, ↓u123_31, ↓u123_32, ↓u123_33, ↓u123_34, ↓u123_35, ↓u123_41, ↓u123_38, ↓u123_42, ↓u123_40, ↓u123_45, ↓u123_46, ↓u123_49, ↓u123_52, ↓u123_53, ↓u123_54, ↓u123_55, ↓u123_56, ↓u123_57, ↓u123_60, ↓u123_63, ↓m_isIn, ↓df0, ↓dI0, stS_now hM, rec2_now hM, ↓c_v_some, ↓c_v_none, d2, n10, n00, if_false, x1492, nAt (show 1492 + d < 1892 by omega) (by decide), nI_clamp (show 1492 + d < 2 ^ 31 by omega), mdl_h hd, e1, if_true, ↓d_o, ↓hr, upF_eq, ds0, mdl_hol1 hd, ha]
  · refine both_q h (v := -2) (fun Q => ?_) (fun Q => ?_)
    · simp only [↓en62, ↓u62_0, ↓u62_1, ↓u62_4, ↓u62_10, ↓u62_7, ↓u62_11, ↓u62_9, ↓u62_14, ↓u62_15, ↓u62_18, ↓u62_19, ↓u62_25, ↓u62_22, ↓u62_26, ↓u62_24, ↓u62_29, ↓u62_30, ↓u62_33, ↓u62_34, ↓u62_35, ↓u62_38, ↓u62_39, ↓u62_42, ↓u62_45, ↓c_isDate, ↓c_v_some, d2, n00, if_true]
    · simp only [↓en123, ↓u123_0, ↓u123_1, ↓u123_2, ↓u123_5, ↓u123_8, ↓u123_14, ↓u123_11, ↓u123_15, ↓u123_13, ↓u123_22, ↓u123_18, ↓u123_23, ↓u123_19, ↓u123_24, ↓u123_25, ↓u123_28, ↓u123_31, ↓u123_32, ↓u123_33, ↓u123_34, ↓u123_35, ↓u123_41, ↓u123_38, ↓u123_42, ↓u123_40, ↓u123_45, ↓u123_46, ↓u123_49, ↓u123_52, ↓u123_53, ↓u123_54, ↓u123_55, ↓u123_56, ↓u123_57, ↓u123_60, ↓u123_63, ↓m_isIn, ↓c_v_some, d2, n00, if_true]

theorem o_bar1 (h : R g) {y x : Int32} : both sc 68 133 [.int y, .int x, .int 1] g := by
  have hI := h.2.1
  have hM := h.2.2.1
  have hT8 := nT8 hI
  have h48 := (sl48 hI).1
  have h20 := nC20 hI
  obtain ⟨fs, n, hh⟩ := h.2.2.2.1
  rcases ii_cases (v := y) (n := nT (g.1 0)) (by omega) with ⟨t, r1, rfl, r2⟩ | ⟨-, r2⟩
  · have ht : t < 8 := by omega
    rcases ii_cases (v := x) (n := slS (g.1 0)) (by omega) with ⟨m, m1', rfl, m2'⟩ | ⟨-, m2'⟩
    · have hm : m < 48 := by omega
      have hm6 : m < 64 := by omega

      by_cases eT : hT (g.1 0) t m = true
      · refine both_q h (v := -4) (fun Q => ?_) (fun Q => ?_)
        · simp only [↓en68, ↓u68_0, ↓u68_1, ↓u68_2, ↓u68_5, ↓u68_19, ↓u68_8, ↓u68_20, ↓u68_9, ↓u68_12, ↓u68_13, ↓u68_16, ↓u68_21, ↓u68_22, ↓u68_43, ↓u68_25, ↓u68_44, ↓u68_26, ↓u68_47, ↓u68_29, ↓u68_50, ↓u68_32, ↓u68_51, ↓u68_33, ↓u68_52, ↓u68_34, ↓u68_55, ↓u68_37, ↓u68_56, ↓u68_40, ↓u68_62, ↓u68_59, ↓u68_42, ↓u68_63, ↓u68_61, ↓u68_66, ↓u68_67, ↓u68_70, ↓u68_73, ↓u68_74, ↓u68_75, ↓u68_76, ↓u68_79, ↓u68_80, ↓u68_83, ↓u68_86, ↓u68_87, ↓u68_90, ↓m_o, ↓c_knowsTeacher, ↓nf0, ↓s_o z7, ↓s_knowsSlot z7, ↓c_v_some, nT_eq hI, sl_eq hI, r2, m2', n10, n00, if_false, if_true, ↓sf10 z7, ↓sf13 z7, ↓j_o1 z7, ↓j_o4 z7, ↓s_hasT z7 ht hm6, ↓s_hasB z7 ht hm6, eT, bI_t]
        · simp only [↓en133, ↓u133_0, ↓u133_1, ↓u133_2, ↓u133_5, ↓u133_16, ↓u133_8, ↓u133_17, ↓u133_9, ↓u133_10, ↓u133_13, ↓u133_18, ↓u133_19, ↓u133_36, ↓u133_22, ↓u133_37, ↓u133_23, ↓u133_38, ↓u133_24, ↓u133_39, ↓u133_25, ↓u133_42, ↓u133_28, ↓u133_43, ↓u133_30, ↓u133_49, ↓u133_46, ↓u133_33, ↓u133_50, ↓u133_48, ↓u133_35, ↓u133_53, ↓u133_54, ↓u133_57, ↓u133_60, ↓u133_62, ↓u133_63, ↓u133_64, ↓u133_65, ↓u133_66, ↓u133_67, ↓u133_68, ↓u133_75, ↓u133_71, ↓u133_76, ↓u133_72, ↓u133_77, ↓u133_78, ↓u133_79, ↓u133_82, ↓d_o, ↓m_isTeacher hM, ↓m_isSlot hM, ↓c_v_some, nT_eq hI, sl_eq hI, r2, m2', n10, n00, if_false, if_true, ↓m_courseOf hI hM hm, fdI_n5 (show nC (g.1 0) < 2 ^ 31 by omega), any_T hI ht, ↓m_isBarred hM ht hm, eT, Bool.true_eq_false]
      have eT : hT (g.1 0) t m = false := by simpa using eT
      by_cases e : hB (g.1 0) t m = true
      · refine both_q h (v := -5) (fun Q => ?_) (fun Q => ?_)
        · simp only [↓en68, ↓u68_0, ↓u68_1, ↓u68_2, ↓u68_5, ↓u68_19, ↓u68_8, ↓u68_20, ↓u68_9, ↓u68_12, ↓u68_13, ↓u68_16, ↓u68_21, ↓u68_22, ↓u68_43, ↓u68_25, ↓u68_44, ↓u68_26, ↓u68_47, ↓u68_29, ↓u68_50, ↓u68_32, ↓u68_51, ↓u68_33, ↓u68_52, ↓u68_34, ↓u68_55, ↓u68_37, ↓u68_56, ↓u68_40, ↓u68_62, ↓u68_59, ↓u68_42, ↓u68_63, ↓u68_61, ↓u68_66, ↓u68_67, ↓u68_70, ↓u68_73, ↓u68_74, ↓u68_75, ↓u68_76, ↓u68_79, ↓u68_80, ↓u68_83, ↓u68_86, ↓u68_87, ↓u68_90, ↓m_o, ↓c_knowsTeacher, ↓nf0, ↓s_o z7, ↓s_knowsSlot z7, ↓c_v_some, nT_eq hI, sl_eq hI, r2, m2', n10, n00, if_false, if_true, ↓sf10 z7, ↓sf13 z7, ↓j_o1 z7, ↓j_o4 z7, ↓s_hasT z7 ht hm6, ↓s_hasB z7 ht hm6, eT, bI_f, e, bI_t, bI_f]
        · simp only [↓en133, ↓u133_0, ↓u133_1, ↓u133_2, ↓u133_5, ↓u133_16, ↓u133_8, ↓u133_17, ↓u133_9, ↓u133_10, ↓u133_13, ↓u133_18, ↓u133_19, ↓u133_36, ↓u133_22, ↓u133_37, ↓u133_23, ↓u133_38, ↓u133_24, ↓u133_39, ↓u133_25, ↓u133_42, ↓u133_28, ↓u133_43, ↓u133_30, ↓u133_49, ↓u133_46, ↓u133_33, ↓u133_50, ↓u133_48, ↓u133_35, ↓u133_53, ↓u133_54, ↓u133_57, ↓u133_60, ↓u133_62, ↓u133_63, ↓u133_64, ↓u133_65, ↓u133_66, ↓u133_67, ↓u133_68, ↓u133_75, ↓u133_71, ↓u133_76, ↓u133_72, ↓u133_77, ↓u133_78, ↓u133_79, ↓u133_82, ↓d_o, ↓m_isTeacher hM, ↓m_isSlot hM, ↓c_v_some, nT_eq hI, sl_eq hI, r2, m2', n10, n00, if_false, if_true, ↓m_courseOf hI hM hm, fdI_n5 (show nC (g.1 0) < 2 ^ 31 by omega), any_T hI ht, ↓m_isBarred hM ht hm, eT, bI_f, e, bI_t, bI_f]
      · have e1 : ¬ bI (hB (g.1 0) t m) = 1 := by
          rw [bI_1]
          exact e
        have hi := inv_bar hI (t := t) (m := m) (b := true) ht m1'
        have hrow : pcn ((sJs (g.1 0) 1 t m true).2.2 1 t) = ct (hB (sJs (g.1 0) 1 t m true) t) (slS (sJs (g.1 0) 1 t m true)) := row_sl hi (fun q hq => hi.2.2.2.2.2.2.2.1 t q hq)
        refine both_act h hh (v := nI (ct (hB (sJs (g.1 0) 1 t m true) t) (slS (sJs (g.1 0) 1 t m true)))) hi (fun Q => ?_) (fun Q => ?_)
        · have ha : ∀ Q, ev sc 6 [.ref (bs 0 + 9), .int (nI t)] (Wd (stS (remG g fs n) 0 (sJs (g.1 0) 1 t m true))) Q = Q (some (.int (nI (ct (hB (sJs (g.1 0) 1 t m true) t) (slS (sJs (g.1 0) 1 t m true)))))) (Wd (stS (remG g fs n) 0 (sJs (g.1 0) 1 t m true))) := fun Q => by
            rw [s_sizeB z7 ht, stS_at, hrow]
          simp only [↓en68, ↓u68_0, ↓u68_1, ↓u68_2, ↓u68_5, ↓u68_19, ↓u68_8, ↓u68_20, ↓u68_9, ↓u68_12, ↓u68_13, ↓u68_16, ↓u68_21, ↓u68_22, ↓u68_43, ↓u68_25, ↓u68_44, ↓u68_26, ↓u68_47, ↓u68_29, ↓u68_50, ↓u68_32, ↓u68_51, ↓u68_33, ↓u68_52, ↓u68_34, ↓u68_55, ↓u68_37, ↓u68_56, ↓u68_40, ↓u68_62, ↓u68_59, ↓u68_42, ↓u68_63, ↓u68_61, ↓u68_66, ↓u68_67, ↓u68_70, ↓u68_73, ↓u68_74, ↓u68_75, ↓u68_76, ↓u68_79, ↓u68_80, ↓u68_83, ↓u68_86, ↓u68_87, ↓u68_90, ↓m_o, ↓c_knowsTeacher, ↓nf0, ↓s_o z7, ↓s_knowsSlot z7, ↓c_v_some, nT_eq hI, sl_eq hI, r2, m2', n10, n00, if_false, if_true, ↓sf10 z7, ↓sf13 z7, ↓j_o1 z7, ↓j_o4 z7, ↓s_hasT z7 ht hm6, ↓s_hasB z7 ht hm6, eT, bI_f, e1, ↓c_rem h hh, ↓c_v_none, w_B1 z7 ht, remG_0, ha]
        · have ha : ∀ Q, ev sc 132 [.ref 154, .int (nI t)] (Wd (gDN (rec2 (stS (remG g fs n) 0 (sJs (g.1 0) 1 t m true)) n) 0 (mdl (sJs (g.1 0) 1 t m true)))) Q = Q (some (.int (nI (ct (hB (sJs (g.1 0) 1 t m true) t) (slS (sJs (g.1 0) 1 t m true)))))) (Wd (gDN (rec2 (stS (remG g fs n) 0 (sJs (g.1 0) 1 t m true)) n) 0 (mdl (sJs (g.1 0) 1 t m true)))) := fun Q => m_barred hi gDN_at ht
          have hr := fun Q => m_rec2 (sc := sc) (Q := Q) (g := stS (remG g fs n) 0 (sJs (g.1 0) 1 t m true)) hh.2.1 hh.2.2.2.2.1
          simp only [↓en133, ↓u133_0, ↓u133_1, ↓u133_2, ↓u133_5, ↓u133_16, ↓u133_8, ↓u133_17, ↓u133_9, ↓u133_10, ↓u133_13, ↓u133_18, ↓u133_19, ↓u133_36, ↓u133_22, ↓u133_37, ↓u133_23, ↓u133_38, ↓u133_24, ↓u133_39, ↓u133_25, ↓u133_42, ↓u133_28, ↓u133_43, ↓u133_30, ↓u133_49, ↓u133_46, ↓u133_33, ↓u133_50, ↓u133_48, ↓u133_35, ↓u133_53, ↓u133_54, ↓u133_57, ↓u133_60, ↓u133_62, ↓u133_63, ↓u133_64, ↓u133_65, ↓u133_66, ↓u133_67, ↓u133_68, ↓u133_75, ↓u133_71, ↓u133_76, ↓u133_72, ↓u133_77, ↓u133_78, ↓u133_79, ↓u133_82, ↓d_o, ↓m_isTeacher (stS_now hM), ↓m_isSlot (stS_now hM), ↓c_v_some, ↓c_v_none, nT_eq hI, sl_eq hI, r2, m2', n10, n00, if_false, if_true, ↓m_courseOf hI (stS_now hM) hm, fdI_n5 (show nC (g.1 0) < 2 ^ 31 by omega), any_T hI ht, ↓m_isBarred (stS_now hM) ht hm, eT, bI_f, e1, ↓hr, ↓df0, ↓dI0, rec2_now hM, x1108, nAt (show 1108 + 48 * t + m < 1892 by omega) (by decide), nI_clamp (show 1108 + 48 * t + m < 2 ^ 31 by omega), upF_eq, ds0, mdl_bar1 ht hm, ha]
    · refine both_q h (v := -1) (fun Q => ?_) (fun Q => ?_)
      · simp only [↓en68, ↓u68_0, ↓u68_1, ↓u68_2, ↓u68_5, ↓u68_19, ↓u68_8, ↓u68_20, ↓u68_9, ↓u68_12, ↓u68_13, ↓u68_16, ↓u68_21, ↓u68_22, ↓u68_43, ↓u68_25, ↓u68_44, ↓u68_26, ↓u68_47, ↓u68_29, ↓u68_50, ↓u68_32, ↓u68_51, ↓u68_33, ↓u68_52, ↓u68_34, ↓u68_55, ↓u68_37, ↓u68_56, ↓u68_40, ↓u68_62, ↓u68_59, ↓u68_42, ↓u68_63, ↓u68_61, ↓u68_66, ↓u68_67, ↓u68_70, ↓u68_73, ↓u68_74, ↓u68_75, ↓u68_76, ↓u68_79, ↓u68_80, ↓u68_83, ↓u68_86, ↓u68_87, ↓u68_90, ↓m_o, ↓c_knowsTeacher, ↓nf0, ↓s_o z7, ↓s_knowsSlot z7, ↓c_v_some, nT_eq hI, sl_eq hI, r2, m2', n10, n00, if_false, if_true]
      · simp only [↓en133, ↓u133_0, ↓u133_1, ↓u133_2, ↓u133_5, ↓u133_16, ↓u133_8, ↓u133_17, ↓u133_9, ↓u133_10, ↓u133_13, ↓u133_18, ↓u133_19, ↓u133_36, ↓u133_22, ↓u133_37, ↓u133_23, ↓u133_38, ↓u133_24, ↓u133_39, ↓u133_25, ↓u133_42, ↓u133_28, ↓u133_43, ↓u133_30, ↓u133_49, ↓u133_46, ↓u133_33, ↓u133_50, ↓u133_48, ↓u133_35, ↓u133_53, ↓u133_54, ↓u133_57, ↓u133_60, ↓u133_62, ↓u133_63, ↓u133_64, ↓u133_65, ↓u133_66, ↓u133_67, ↓u133_68, ↓u133_75, ↓u133_71, ↓u133_76, ↓u133_72, ↓u133_77, ↓u133_78, ↓u133_79, ↓u133_82, ↓d_o, ↓m_isTeacher hM, ↓m_isSlot hM, ↓c_v_some, nT_eq hI, sl_eq hI, r2, m2', n10, n00, if_false, if_true]
  · refine both_q h (v := -1) (fun Q => ?_) (fun Q => ?_)
    · simp only [↓en68, ↓u68_0, ↓u68_1, ↓u68_2, ↓u68_5, ↓u68_19, ↓u68_8, ↓u68_20, ↓u68_9, ↓u68_12, ↓u68_13, ↓u68_16, ↓u68_21, ↓u68_22, ↓u68_43, ↓u68_25, ↓u68_44, ↓u68_26, ↓u68_47, ↓u68_29, ↓u68_50, ↓u68_32, ↓u68_51, ↓u68_33, ↓u68_52, ↓u68_34, ↓u68_55, ↓u68_37, ↓u68_56, ↓u68_40, ↓u68_62, ↓u68_59, ↓u68_42, ↓u68_63, ↓u68_61, ↓u68_66, ↓u68_67, ↓u68_70, ↓u68_73, ↓u68_74, ↓u68_75, ↓u68_76, ↓u68_79, ↓u68_80, ↓u68_83, ↓u68_86, ↓u68_87, ↓u68_90, ↓m_o, ↓c_knowsTeacher, ↓c_v_some, nT_eq hI, r2, n00, if_true]
    · simp only [↓en133, ↓u133_0, ↓u133_1, ↓u133_2, ↓u133_5, ↓u133_16, ↓u133_8, ↓u133_17, ↓u133_9, ↓u133_10, ↓u133_13, ↓u133_18, ↓u133_19, ↓u133_36, ↓u133_22, ↓u133_37, ↓u133_23, ↓u133_38, ↓u133_24, ↓u133_39, ↓u133_25, ↓u133_42, ↓u133_28, ↓u133_43, ↓u133_30, ↓u133_49, ↓u133_46, ↓u133_33, ↓u133_50, ↓u133_48, ↓u133_35, ↓u133_53, ↓u133_54, ↓u133_57, ↓u133_60, ↓u133_62, ↓u133_63, ↓u133_64, ↓u133_65, ↓u133_66, ↓u133_67, ↓u133_68, ↓u133_75, ↓u133_71, ↓u133_76, ↓u133_72, ↓u133_77, ↓u133_78, ↓u133_79, ↓u133_82, ↓d_o, ↓m_isTeacher hM, ↓c_v_some, nT_eq hI, r2, n00, if_true]

theorem mdl_bar0 {s : SV} {t m : Nat} (ht : t < 8) (hm : m < 48) : upF (mdl s) (1108 + 48 * t + m) 0 = mdl (sJs s 1 t m false) := mdl_bar (b := false) ht hm
theorem mdl_hol0 {s : SV} {d : Nat} (hd : d < 400) : upF (mdl s) (1492 + d) 0 = mdl (sJs s 0 (d / 64) (d % 64) false) := mdl_hol (b := false) hd
theorem s_setHoliday0 (hj : j < 7) {d : Nat} (hd : d < 400) : ev sc 19 [.ref (bs j), .int (nI d), .int 0] (Wd g) Q = Q none (Wd (stS g j (sJs (g.1 j) 0 (d / 64) (d % 64) false))) := s_setHoliday (b := false) hj hd
theorem w_B0 (hj : j < 7) {i m : Nat} (hi : i < 8) : ev sc 9 [.ref (bs j + 9), .int (nI i), .int (nI m), .int 0] (Wd g) Q = Q none (Wd (stS g j (sJs (g.1 j) 1 i m false))) := w_B (b := false) hj hi
theorem o_holiday0 (h : R g) {x : Int32} : both sc 62 123 [.int x, .int 0] g := by
  have hI := h.2.1
  have hM := h.2.2.1
  obtain ⟨fs, n, hh⟩ := h.2.2.2.1
  rcases ii_399 (x := x) with ⟨d, hd, rfl, d2⟩ | d2
  · by_cases e : hol (g.1 0) d = false
    · refine both_q h (v := -5) (fun Q => ?_) (fun Q => ?_)
      · simp only [↓en62, ↓u62_0, ↓u62_1, ↓u62_4, ↓u62_10, ↓u62_7, ↓u62_11, ↓u62_9, ↓u62_14, ↓u62_15, ↓u62_18, ↓u62_19, ↓u62_25, ↓u62_22, ↓u62_26, ↓u62_24, ↓u62_29, ↓u62_30, ↓u62_33, ↓u62_34, ↓u62_35, ↓u62_38, ↓u62_39, ↓u62_42, ↓u62_45, ↓c_isDate, ↓nf0, ↓s_o z7, ↓c_v_some, d2, n10, if_false, ↓s_isHoliday z7 hd, e, bI_t, bI_f, if_true]
      · simp only [↓en123, ↓u123_0, ↓u123_1, ↓u123_2, ↓u123_5, ↓u123_8, ↓u123_14, ↓u123_11, ↓u123_15, ↓u123_13, ↓u123_22, ↓u123_18, ↓u123_23, ↓u123_19, ↓u123_24, ↓u123_25, ↓u123_28, ↓u123_31, ↓u123_32, ↓u123_33, ↓u123_34, ↓u123_35, ↓u123_41, ↓u123_38, ↓u123_42, ↓u123_40, ↓u123_45, ↓u123_46, ↓u123_49, ↓u123_52, ↓u123_53, ↓u123_54, ↓u123_55, ↓u123_56, ↓u123_57, ↓u123_60, ↓u123_63, ↓m_isIn, ↓df0, ↓dI0, hM, ↓c_v_some, d2, n10, n00, if_false, x1492, nAt (show 1492 + d < 1892 by omega) (by decide), nI_clamp (show 1492 + d < 2 ^ 31 by omega), mdl_h hd, e, bI_t, bI_f, if_true]
    · have e1 : ¬ bI (hol (g.1 0) d) = 0 := by
        rw [bI_0]
        exact e
      have hi := inv_holiday hI (d := d) (b := false) hd
      refine both_act h hh (v := nI (ct (hol (sJs (g.1 0) 0 (d / 64) (d % 64) false)) 400)) hi (fun Q => ?_) (fun Q => ?_)
      · have ha : ∀ Q, ev sc 20 [.ref (bs 0)] (Wd (stS (remG g fs n) 0 (sJs (g.1 0) 0 (d / 64) (d % 64) false))) Q = Q (some (.int (nI (ct (hol (sJs (g.1 0) 0 (d / 64) (d % 64) false)) 400)))) (Wd (stS (remG g fs n) 0 (sJs (g.1 0) 0 (d / 64) (d % 64) false))) := fun Q => by
          rw [s_allHolidays z7, stS_at, holAll_eq hi]
        simp only [↓en62, ↓u62_0, ↓u62_1, ↓u62_4, ↓u62_10, ↓u62_7, ↓u62_11, ↓u62_9, ↓u62_14, ↓u62_15, ↓u62_18, ↓u62_19, ↓u62_25, ↓u62_22, ↓u62_26, ↓u62_24, ↓u62_29, ↓u62_30, ↓u62_33, ↓u62_34, ↓u62_35, ↓u62_38, ↓u62_39, ↓u62_42, ↓u62_45, ↓c_isDate, ↓nf0, ↓s_o z7, ↓c_v_some, d2, n10, if_false, ↓s_isHoliday z7 hd, e1, ↓m_o, ↓c_rem h hh, ↓c_v_none, s_setHoliday0 z7 hd, remG_0, ha]
      · have ha : ∀ Q, ev sc 122 [.ref 154, .int 400] (Wd (gDN (rec2 (stS (remG g fs n) 0 (sJs (g.1 0) 0 (d / 64) (d % 64) false)) n) 0 (mdl (sJs (g.1 0) 0 (d / 64) (d % 64) false)))) Q = Q (some (.int (nI (ct (hol (sJs (g.1 0) 0 (d / 64) (d % 64) false)) 400)))) (Wd (gDN (rec2 (stS (remG g fs n) 0 (sJs (g.1 0) 0 (d / 64) (d % 64) false)) n) 0 (mdl (sJs (g.1 0) 0 (d / 64) (d % 64) false)))) := fun Q => m_holidays (e := 400) gDN_at (by decide)
        have hr := fun Q => m_rec2 (sc := sc) (Q := Q) (g := stS (remG g fs n) 0 (sJs (g.1 0) 0 (d / 64) (d % 64) false)) hh.2.1 hh.2.2.2.2.1
        simp only [↓en123, ↓u123_0, ↓u123_1, ↓u123_2, ↓u123_5, ↓u123_8, ↓u123_14, ↓u123_11, ↓u123_15, ↓u123_13, ↓u123_22, ↓u123_18, ↓u123_23, ↓u123_19, ↓u123_24, ↓u123_25, ↓u123_28, ↓u123_31, ↓u123_32, ↓u123_33, ↓u123_34, ↓u123_35, ↓u123_41, ↓u123_38, ↓u123_42, ↓u123_40, ↓u123_45, ↓u123_46, ↓u123_49, ↓u123_52, ↓u123_53, ↓u123_54, ↓u123_55, ↓u123_56, ↓u123_57, ↓u123_60, ↓u123_63, ↓m_isIn, ↓df0, ↓dI0, stS_now hM, rec2_now hM, ↓c_v_some, ↓c_v_none, d2, n10, n00, if_false, x1492, nAt (show 1492 + d < 1892 by omega) (by decide), nI_clamp (show 1492 + d < 2 ^ 31 by omega), mdl_h hd, e1, if_true, ↓d_o, ↓hr, upF_eq, ds0, mdl_hol0 hd, ha]
  · refine both_q h (v := -2) (fun Q => ?_) (fun Q => ?_)
    · simp only [↓en62, ↓u62_0, ↓u62_1, ↓u62_4, ↓u62_10, ↓u62_7, ↓u62_11, ↓u62_9, ↓u62_14, ↓u62_15, ↓u62_18, ↓u62_19, ↓u62_25, ↓u62_22, ↓u62_26, ↓u62_24, ↓u62_29, ↓u62_30, ↓u62_33, ↓u62_34, ↓u62_35, ↓u62_38, ↓u62_39, ↓u62_42, ↓u62_45, ↓c_isDate, ↓c_v_some, d2, n00, if_true]
    · simp only [↓en123, ↓u123_0, ↓u123_1, ↓u123_2, ↓u123_5, ↓u123_8, ↓u123_14, ↓u123_11, ↓u123_15, ↓u123_13, ↓u123_22, ↓u123_18, ↓u123_23, ↓u123_19, ↓u123_24, ↓u123_25, ↓u123_28, ↓u123_31, ↓u123_32, ↓u123_33, ↓u123_34, ↓u123_35, ↓u123_41, ↓u123_38, ↓u123_42, ↓u123_40, ↓u123_45, ↓u123_46, ↓u123_49, ↓u123_52, ↓u123_53, ↓u123_54, ↓u123_55, ↓u123_56, ↓u123_57, ↓u123_60, ↓u123_63, ↓m_isIn, ↓c_v_some, d2, n00, if_true]

theorem o_bar0 (h : R g) {y x : Int32} : both sc 68 133 [.int y, .int x, .int 0] g := by
  have hI := h.2.1
  have hM := h.2.2.1
  have hT8 := nT8 hI
  have h48 := (sl48 hI).1
  have h20 := nC20 hI
  obtain ⟨fs, n, hh⟩ := h.2.2.2.1
  rcases ii_cases (v := y) (n := nT (g.1 0)) (by omega) with ⟨t, r1, rfl, r2⟩ | ⟨-, r2⟩
  · have ht : t < 8 := by omega
    rcases ii_cases (v := x) (n := slS (g.1 0)) (by omega) with ⟨m, m1', rfl, m2'⟩ | ⟨-, m2'⟩
    · have hm : m < 48 := by omega
      have hm6 : m < 64 := by omega

      by_cases e : hB (g.1 0) t m = false
      · refine both_q h (v := -5) (fun Q => ?_) (fun Q => ?_)
        · simp only [↓en68, ↓u68_0, ↓u68_1, ↓u68_2, ↓u68_5, ↓u68_19, ↓u68_8, ↓u68_20, ↓u68_9, ↓u68_12, ↓u68_13, ↓u68_16, ↓u68_21, ↓u68_22, ↓u68_43, ↓u68_25, ↓u68_44, ↓u68_26, ↓u68_47, ↓u68_29, ↓u68_50, ↓u68_32, ↓u68_51, ↓u68_33, ↓u68_52, ↓u68_34, ↓u68_55, ↓u68_37, ↓u68_56, ↓u68_40, ↓u68_62, ↓u68_59, ↓u68_42, ↓u68_63, ↓u68_61, ↓u68_66, ↓u68_67, ↓u68_70, ↓u68_73, ↓u68_74, ↓u68_75, ↓u68_76, ↓u68_79, ↓u68_80, ↓u68_83, ↓u68_86, ↓u68_87, ↓u68_90, ↓m_o, ↓c_knowsTeacher, ↓nf0, ↓s_o z7, ↓s_knowsSlot z7, ↓c_v_some, nT_eq hI, sl_eq hI, r2, m2', n10, n00, if_false, if_true, ↓sf10 z7, ↓sf13 z7, ↓j_o1 z7, ↓j_o4 z7, ↓s_hasT z7 ht hm6, ↓s_hasB z7 ht hm6, e, bI_t, bI_f]
        · simp only [↓en133, ↓u133_0, ↓u133_1, ↓u133_2, ↓u133_5, ↓u133_16, ↓u133_8, ↓u133_17, ↓u133_9, ↓u133_10, ↓u133_13, ↓u133_18, ↓u133_19, ↓u133_36, ↓u133_22, ↓u133_37, ↓u133_23, ↓u133_38, ↓u133_24, ↓u133_39, ↓u133_25, ↓u133_42, ↓u133_28, ↓u133_43, ↓u133_30, ↓u133_49, ↓u133_46, ↓u133_33, ↓u133_50, ↓u133_48, ↓u133_35, ↓u133_53, ↓u133_54, ↓u133_57, ↓u133_60, ↓u133_62, ↓u133_63, ↓u133_64, ↓u133_65, ↓u133_66, ↓u133_67, ↓u133_68, ↓u133_75, ↓u133_71, ↓u133_76, ↓u133_72, ↓u133_77, ↓u133_78, ↓u133_79, ↓u133_82, ↓d_o, ↓m_isTeacher hM, ↓m_isSlot hM, ↓c_v_some, nT_eq hI, sl_eq hI, r2, m2', n10, n00, if_false, if_true, ↓m_courseOf hI hM hm, fdI_n5 (show nC (g.1 0) < 2 ^ 31 by omega), any_T hI ht, ↓m_isBarred hM ht hm, e, bI_t, bI_f]
      · have e1 : ¬ bI (hB (g.1 0) t m) = 0 := by
          rw [bI_0]
          exact e
        have hi := inv_bar hI (t := t) (m := m) (b := false) ht m1'
        have hrow : pcn ((sJs (g.1 0) 1 t m false).2.2 1 t) = ct (hB (sJs (g.1 0) 1 t m false) t) (slS (sJs (g.1 0) 1 t m false)) := row_sl hi (fun q hq => hi.2.2.2.2.2.2.2.1 t q hq)
        refine both_act h hh (v := nI (ct (hB (sJs (g.1 0) 1 t m false) t) (slS (sJs (g.1 0) 1 t m false)))) hi (fun Q => ?_) (fun Q => ?_)
        · have ha : ∀ Q, ev sc 6 [.ref (bs 0 + 9), .int (nI t)] (Wd (stS (remG g fs n) 0 (sJs (g.1 0) 1 t m false))) Q = Q (some (.int (nI (ct (hB (sJs (g.1 0) 1 t m false) t) (slS (sJs (g.1 0) 1 t m false)))))) (Wd (stS (remG g fs n) 0 (sJs (g.1 0) 1 t m false))) := fun Q => by
            rw [s_sizeB z7 ht, stS_at, hrow]
          simp only [↓en68, ↓u68_0, ↓u68_1, ↓u68_2, ↓u68_5, ↓u68_19, ↓u68_8, ↓u68_20, ↓u68_9, ↓u68_12, ↓u68_13, ↓u68_16, ↓u68_21, ↓u68_22, ↓u68_43, ↓u68_25, ↓u68_44, ↓u68_26, ↓u68_47, ↓u68_29, ↓u68_50, ↓u68_32, ↓u68_51, ↓u68_33, ↓u68_52, ↓u68_34, ↓u68_55, ↓u68_37, ↓u68_56, ↓u68_40, ↓u68_62, ↓u68_59, ↓u68_42, ↓u68_63, ↓u68_61, ↓u68_66, ↓u68_67, ↓u68_70, ↓u68_73, ↓u68_74, ↓u68_75, ↓u68_76, ↓u68_79, ↓u68_80, ↓u68_83, ↓u68_86, ↓u68_87, ↓u68_90, ↓m_o, ↓c_knowsTeacher, ↓nf0, ↓s_o z7, ↓s_knowsSlot z7, ↓c_v_some, nT_eq hI, sl_eq hI, r2, m2', n10, n00, if_false, if_true, ↓sf10 z7, ↓sf13 z7, ↓j_o1 z7, ↓j_o4 z7, ↓s_hasT z7 ht hm6, ↓s_hasB z7 ht hm6, e1, ↓c_rem h hh, ↓c_v_none, w_B0 z7 ht, remG_0, ha]
        · have ha : ∀ Q, ev sc 132 [.ref 154, .int (nI t)] (Wd (gDN (rec2 (stS (remG g fs n) 0 (sJs (g.1 0) 1 t m false)) n) 0 (mdl (sJs (g.1 0) 1 t m false)))) Q = Q (some (.int (nI (ct (hB (sJs (g.1 0) 1 t m false) t) (slS (sJs (g.1 0) 1 t m false)))))) (Wd (gDN (rec2 (stS (remG g fs n) 0 (sJs (g.1 0) 1 t m false)) n) 0 (mdl (sJs (g.1 0) 1 t m false)))) := fun Q => m_barred hi gDN_at ht
          have hr := fun Q => m_rec2 (sc := sc) (Q := Q) (g := stS (remG g fs n) 0 (sJs (g.1 0) 1 t m false)) hh.2.1 hh.2.2.2.2.1
          simp only [↓en133, ↓u133_0, ↓u133_1, ↓u133_2, ↓u133_5, ↓u133_16, ↓u133_8, ↓u133_17, ↓u133_9, ↓u133_10, ↓u133_13, ↓u133_18, ↓u133_19, ↓u133_36, ↓u133_22, ↓u133_37, ↓u133_23, ↓u133_38, ↓u133_24, ↓u133_39, ↓u133_25, ↓u133_42, ↓u133_28, ↓u133_43, ↓u133_30, ↓u133_49, ↓u133_46, ↓u133_33, ↓u133_50, ↓u133_48, ↓u133_35, ↓u133_53, ↓u133_54, ↓u133_57, ↓u133_60, ↓u133_62, ↓u133_63, ↓u133_64, ↓u133_65, ↓u133_66, ↓u133_67, ↓u133_68, ↓u133_75, ↓u133_71, ↓u133_76, ↓u133_72, ↓u133_77, ↓u133_78, ↓u133_79, ↓u133_82, ↓d_o, ↓m_isTeacher (stS_now hM), ↓m_isSlot (stS_now hM), ↓c_v_some, ↓c_v_none, nT_eq hI, sl_eq hI, r2, m2', n10, n00, if_false, if_true, ↓m_courseOf hI (stS_now hM) hm, fdI_n5 (show nC (g.1 0) < 2 ^ 31 by omega), any_T hI ht, ↓m_isBarred (stS_now hM) ht hm, e1, ↓hr, ↓df0, ↓dI0, rec2_now hM, x1108, nAt (show 1108 + 48 * t + m < 1892 by omega) (by decide), nI_clamp (show 1108 + 48 * t + m < 2 ^ 31 by omega), upF_eq, ds0, mdl_bar0 ht hm, ha]
    · refine both_q h (v := -1) (fun Q => ?_) (fun Q => ?_)
      · simp only [↓en68, ↓u68_0, ↓u68_1, ↓u68_2, ↓u68_5, ↓u68_19, ↓u68_8, ↓u68_20, ↓u68_9, ↓u68_12, ↓u68_13, ↓u68_16, ↓u68_21, ↓u68_22, ↓u68_43, ↓u68_25, ↓u68_44, ↓u68_26, ↓u68_47, ↓u68_29, ↓u68_50, ↓u68_32, ↓u68_51, ↓u68_33, ↓u68_52, ↓u68_34, ↓u68_55, ↓u68_37, ↓u68_56, ↓u68_40, ↓u68_62, ↓u68_59, ↓u68_42, ↓u68_63, ↓u68_61, ↓u68_66, ↓u68_67, ↓u68_70, ↓u68_73, ↓u68_74, ↓u68_75, ↓u68_76, ↓u68_79, ↓u68_80, ↓u68_83, ↓u68_86, ↓u68_87, ↓u68_90, ↓m_o, ↓c_knowsTeacher, ↓nf0, ↓s_o z7, ↓s_knowsSlot z7, ↓c_v_some, nT_eq hI, sl_eq hI, r2, m2', n10, n00, if_false, if_true]
      · simp only [↓en133, ↓u133_0, ↓u133_1, ↓u133_2, ↓u133_5, ↓u133_16, ↓u133_8, ↓u133_17, ↓u133_9, ↓u133_10, ↓u133_13, ↓u133_18, ↓u133_19, ↓u133_36, ↓u133_22, ↓u133_37, ↓u133_23, ↓u133_38, ↓u133_24, ↓u133_39, ↓u133_25, ↓u133_42, ↓u133_28, ↓u133_43, ↓u133_30, ↓u133_49, ↓u133_46, ↓u133_33, ↓u133_50, ↓u133_48, ↓u133_35, ↓u133_53, ↓u133_54, ↓u133_57, ↓u133_60, ↓u133_62, ↓u133_63, ↓u133_64, ↓u133_65, ↓u133_66, ↓u133_67, ↓u133_68, ↓u133_75, ↓u133_71, ↓u133_76, ↓u133_72, ↓u133_77, ↓u133_78, ↓u133_79, ↓u133_82, ↓d_o, ↓m_isTeacher hM, ↓m_isSlot hM, ↓c_v_some, nT_eq hI, sl_eq hI, r2, m2', n10, n00, if_false, if_true]
  · refine both_q h (v := -1) (fun Q => ?_) (fun Q => ?_)
    · simp only [↓en68, ↓u68_0, ↓u68_1, ↓u68_2, ↓u68_5, ↓u68_19, ↓u68_8, ↓u68_20, ↓u68_9, ↓u68_12, ↓u68_13, ↓u68_16, ↓u68_21, ↓u68_22, ↓u68_43, ↓u68_25, ↓u68_44, ↓u68_26, ↓u68_47, ↓u68_29, ↓u68_50, ↓u68_32, ↓u68_51, ↓u68_33, ↓u68_52, ↓u68_34, ↓u68_55, ↓u68_37, ↓u68_56, ↓u68_40, ↓u68_62, ↓u68_59, ↓u68_42, ↓u68_63, ↓u68_61, ↓u68_66, ↓u68_67, ↓u68_70, ↓u68_73, ↓u68_74, ↓u68_75, ↓u68_76, ↓u68_79, ↓u68_80, ↓u68_83, ↓u68_86, ↓u68_87, ↓u68_90, ↓m_o, ↓c_knowsTeacher, ↓c_v_some, nT_eq hI, r2, n00, if_true]
    · simp only [↓en133, ↓u133_0, ↓u133_1, ↓u133_2, ↓u133_5, ↓u133_16, ↓u133_8, ↓u133_17, ↓u133_9, ↓u133_10, ↓u133_13, ↓u133_18, ↓u133_19, ↓u133_36, ↓u133_22, ↓u133_37, ↓u133_23, ↓u133_38, ↓u133_24, ↓u133_39, ↓u133_25, ↓u133_42, ↓u133_28, ↓u133_43, ↓u133_30, ↓u133_49, ↓u133_46, ↓u133_33, ↓u133_50, ↓u133_48, ↓u133_35, ↓u133_53, ↓u133_54, ↓u133_57, ↓u133_60, ↓u133_62, ↓u133_63, ↓u133_64, ↓u133_65, ↓u133_66, ↓u133_67, ↓u133_68, ↓u133_75, ↓u133_71, ↓u133_76, ↓u133_72, ↓u133_77, ↓u133_78, ↓u133_79, ↓u133_82, ↓d_o, ↓m_isTeacher hM, ↓c_v_some, nT_eq hI, r2, n00, if_true]

end
