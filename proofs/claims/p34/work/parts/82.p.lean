/-! ONE CALL: acts that change the state at once -/
section
variable {sc : Nat × (Nat → Int32)} {s : SV} {g : SG} {fs n j : Nat} {Q : Option Value → ri_W → Prop}
theorem n01 : ((0 : Int32) = 1) = False := eq_false (by decide)
theorem p_addGroup (hJ : inv2 s) : Stq sc 56 [.ref 0] s := by
  have hI := hJ.1
  have hG8 := nG8 hI
  by_cases e : nG s = 8
  · refine stp_q (u := -3) (by decide) (fun g fs n h e9 Q => ?_)
    subst e9
    have e1 : (g.1 0).1 2 = 8 := by rw [nG_eq hI, e]; rfl
    simp only [↓en56, ↓u56_0, ↓u56_1, ↓u56_4, ↓u56_7, ↓u56_9, ↓u56_15, ↓u56_12, ↓u56_16, ↓u56_14, ↓u56_19, ↓u56_20, ↓u56_23, ↓u56_26, ↓u56_27, ↓u56_28, ↓u56_31, ↓u56_32, ↓u56_33, ↓u56_34, ↓u56_37, ↓u56_38, ↓nf0, ↓sf2 z7, e1, show ((8 : Int32) < 8) = False by decide, show ((8 : Int32) ≤ 8) = True by decide, if_true, if_false]
  · have hg : nG s < 8 := by omega
    have c1 : nI (nG s) < 8 := nI_lt (b := 8) hg (by decide)
    have c2 : ¬ (8 : Int32) ≤ nI (nG s) := nI_ge (b := 8) hg (by decide)
    refine stp_a (u := nI (nG s)) (nI_nn (by omega)) (i2_group hJ hg) (fun g fs n h e9 Q => ?_)
    subst e9
    simp only [↓en56, ↓u56_0, ↓u56_1, ↓u56_4, ↓u56_7, ↓u56_9, ↓u56_15, ↓u56_12, ↓u56_16, ↓u56_14, ↓u56_19, ↓u56_20, ↓u56_23, ↓u56_26, ↓u56_27, ↓u56_28, ↓u56_31, ↓u56_32, ↓u56_33, ↓u56_34, ↓u56_37, ↓u56_38, ↓nf0, ↓sf2 z7, nG_eq hI, c1, c2, if_true, if_false, ↓m_o, ↓c_rem h, ↓c_v_none, remG_0, sp2 z7, nI_1]
theorem p_addTeacher (hJ : inv2 s) {a b : Int32} : Stq sc 57 [.ref 0, .int a, .int b] s := by
  have hI := hJ.1
  have hT8 := nT8 hI
  rcases iiR (x := a) (A := 1) (B := 40) (a := 1) (b := 40) rfl rfl (by decide) with ⟨a, -, a1, rfl, a2⟩ | a2
  · rcases iiR (x := b) (A := 1) (B := 6) (a := 1) (b := 6) rfl rfl (by decide) with ⟨b, -, b1, rfl, b2⟩ | b2
    · by_cases e : nT s = 8
      · refine stp_q (u := -3) (by decide) (fun g fs n h e9 Q => ?_)
        subst e9
        have e1 : (g.1 0).1 3 = 8 := by rw [nT_eq hI, e]; rfl
        simp only [↓en57, ↓u57_0, ↓u57_1, ↓u57_2, ↓u57_4, ↓u57_7, ↓u57_20, ↓u57_10, ↓u57_22, ↓u57_11, ↓u57_12, ↓u57_14, ↓u57_17, ↓u57_23, ↓u57_24, ↓u57_27, ↓u57_30, ↓u57_32, ↓u57_38, ↓u57_35, ↓u57_39, ↓u57_37, ↓u57_42, ↓u57_43, ↓u57_46, ↓u57_49, ↓u57_50, ↓u57_51, ↓u57_54, ↓u57_57, ↓u57_58, ↓u57_59, ↓u57_60, ↓u57_63, ↓u57_64, ↓u57_67, ↓u57_70, ↓u57_71, ↓u57_72, ↓u57_73, ↓u57_76, ↓u57_77, ↓u57_80, ↓u57_81, ↓u57_82, ↓u57_83, ↓u57_86, ↓u57_87, ↓s_isIn, ↓c_v_some, a2, b2, n10, ↓nf0, ↓sf3 z7, e1, show ((8 : Int32) < 8) = False by decide, show ((8 : Int32) ≤ 8) = True by decide, if_true, if_false]
      · have hg : nT s < 8 := by omega
        have c1 : nI (nT s) < 8 := nI_lt (b := 8) hg (by decide)
        have c2 : ¬ (8 : Int32) ≤ nI (nT s) := nI_ge (b := 8) hg (by decide)
        have hi := i2_teacher hJ a1 b1 hg
        rw [sN_tw] at hi
        refine stp_a (u := nI (nT s)) (nI_nn (by omega)) hi (fun g fs n h e9 Q => ?_)
        subst e9
        simp only [↓en57, ↓u57_0, ↓u57_1, ↓u57_2, ↓u57_4, ↓u57_7, ↓u57_20, ↓u57_10, ↓u57_22, ↓u57_11, ↓u57_12, ↓u57_14, ↓u57_17, ↓u57_23, ↓u57_24, ↓u57_27, ↓u57_30, ↓u57_32, ↓u57_38, ↓u57_35, ↓u57_39, ↓u57_37, ↓u57_42, ↓u57_43, ↓u57_46, ↓u57_49, ↓u57_50, ↓u57_51, ↓u57_54, ↓u57_57, ↓u57_58, ↓u57_59, ↓u57_60, ↓u57_63, ↓u57_64, ↓u57_67, ↓u57_70, ↓u57_71, ↓u57_72, ↓u57_73, ↓u57_76, ↓u57_77, ↓u57_80, ↓u57_81, ↓u57_82, ↓u57_83, ↓u57_86, ↓u57_87, ↓s_isIn, ↓c_v_some, a2, b2, n10, if_false, ↓nf0, ↓sf3 z7, ↓sf6 z7, nT_eq hI, c1, c2, if_true, ↓m_o, ↓n_o0 z7, ↓c_rem h, ↓c_v_none, remG_0, w_tf0 z7 hg, w_tf1 z7 hg, stS_at, stS_twice, sN_at, sN_tw, sp3 z7, nI_1]
    · refine stp_q (u := -2) (by decide) (fun g fs n h e9 Q => ?_)
      subst e9
      simp only [↓en57, ↓u57_0, ↓u57_1, ↓u57_2, ↓u57_4, ↓u57_7, ↓u57_20, ↓u57_10, ↓u57_22, ↓u57_11, ↓u57_12, ↓u57_14, ↓u57_17, ↓u57_23, ↓u57_24, ↓u57_27, ↓u57_30, ↓u57_32, ↓u57_38, ↓u57_35, ↓u57_39, ↓u57_37, ↓u57_42, ↓u57_43, ↓u57_46, ↓u57_49, ↓u57_50, ↓u57_51, ↓u57_54, ↓u57_57, ↓u57_58, ↓u57_59, ↓u57_60, ↓u57_63, ↓u57_64, ↓u57_67, ↓u57_70, ↓u57_71, ↓u57_72, ↓u57_73, ↓u57_76, ↓u57_77, ↓u57_80, ↓u57_81, ↓u57_82, ↓u57_83, ↓u57_86, ↓u57_87, ↓s_isIn, ↓c_v_some, a2, b2, n10, n00, if_true, if_false]
  · refine stp_q (u := -2) (by decide) (fun g fs n h e9 Q => ?_)
    subst e9
    simp only [↓en57, ↓u57_0, ↓u57_1, ↓u57_2, ↓u57_4, ↓u57_7, ↓u57_20, ↓u57_10, ↓u57_22, ↓u57_11, ↓u57_12, ↓u57_14, ↓u57_17, ↓u57_23, ↓u57_24, ↓u57_27, ↓u57_30, ↓u57_32, ↓u57_38, ↓u57_35, ↓u57_39, ↓u57_37, ↓u57_42, ↓u57_43, ↓u57_46, ↓u57_49, ↓u57_50, ↓u57_51, ↓u57_54, ↓u57_57, ↓u57_58, ↓u57_59, ↓u57_60, ↓u57_63, ↓u57_64, ↓u57_67, ↓u57_70, ↓u57_71, ↓u57_72, ↓u57_73, ↓u57_76, ↓u57_77, ↓u57_80, ↓u57_81, ↓u57_82, ↓u57_83, ↓u57_86, ↓u57_87, ↓s_isIn, ↓c_v_some, a2, n00, if_true]
theorem p_addRoom (hJ : inv2 s) {a : Int32} : Stq sc 58 [.ref 0, .int a] s := by
  have hI := hJ.1
  have hR6 := nR6 hI
  rcases ii01 (v := a) (a := 0) (b := 15) with a2 | a2
  · by_cases e : nR s = 6
    · refine stp_q (u := -3) (by decide) (fun g fs n h e9 Q => ?_)
      subst e9
      have e1 : (g.1 0).1 4 = 6 := by rw [nR_eq hI, e]; rfl
      simp only [↓en58, ↓u58_0, ↓u58_1, ↓u58_2, ↓u58_4, ↓u58_7, ↓u58_13, ↓u58_10, ↓u58_14, ↓u58_12, ↓u58_17, ↓u58_20, ↓u58_22, ↓u58_28, ↓u58_25, ↓u58_29, ↓u58_27, ↓u58_32, ↓u58_33, ↓u58_36, ↓u58_39, ↓u58_40, ↓u58_41, ↓u58_44, ↓u58_47, ↓u58_48, ↓u58_49, ↓u58_50, ↓u58_53, ↓u58_54, ↓u58_57, ↓u58_58, ↓u58_59, ↓u58_60, ↓u58_63, ↓u58_64, ↓s_isIn, ↓c_v_some, a2, n10, ↓nf0, ↓sf4 z7, e1, show ((6 : Int32) < 6) = False by decide, show ((6 : Int32) ≤ 6) = True by decide, if_true, if_false]
    · have hg : nR s < 6 := by omega
      have c1 : nI (nR s) < 6 := nI_lt (b := 6) hg (by decide)
      have c2 : ¬ (6 : Int32) ≤ nI (nR s) := nI_ge (b := 6) hg (by decide)
      refine stp_a (u := nI (nR s)) (nI_nn (by omega)) (i2_room hJ (a := a) hg) (fun g fs n h e9 Q => ?_)
      subst e9
      simp only [↓en58, ↓u58_0, ↓u58_1, ↓u58_2, ↓u58_4, ↓u58_7, ↓u58_13, ↓u58_10, ↓u58_14, ↓u58_12, ↓u58_17, ↓u58_20, ↓u58_22, ↓u58_28, ↓u58_25, ↓u58_29, ↓u58_27, ↓u58_32, ↓u58_33, ↓u58_36, ↓u58_39, ↓u58_40, ↓u58_41, ↓u58_44, ↓u58_47, ↓u58_48, ↓u58_49, ↓u58_50, ↓u58_53, ↓u58_54, ↓u58_57, ↓u58_58, ↓u58_59, ↓u58_60, ↓u58_63, ↓u58_64, ↓s_isIn, ↓c_v_some, a2, n10, if_false, ↓nf0, ↓sf4 z7, ↓sf7 z7, nR_eq hI, c1, c2, if_true, ↓m_o, ↓n_o1 z7, ↓c_rem h, ↓c_v_none, remG_0, w_re z7 hg, stS_at, stS_twice, sp4 z7, nI_1]
  · refine stp_q (u := -2) (by decide) (fun g fs n h e9 Q => ?_)
    subst e9
    simp only [↓en58, ↓u58_0, ↓u58_1, ↓u58_2, ↓u58_4, ↓u58_7, ↓u58_13, ↓u58_10, ↓u58_14, ↓u58_12, ↓u58_17, ↓u58_20, ↓u58_22, ↓u58_28, ↓u58_25, ↓u58_29, ↓u58_27, ↓u58_32, ↓u58_33, ↓u58_36, ↓u58_39, ↓u58_40, ↓u58_41, ↓u58_44, ↓u58_47, ↓u58_48, ↓u58_49, ↓u58_50, ↓u58_53, ↓u58_54, ↓u58_57, ↓u58_58, ↓u58_59, ↓u58_60, ↓u58_63, ↓u58_64, ↓s_isIn, ↓c_v_some, a2, n00, if_true]
theorem s_setHoliday1 (hj : j < 7) {d : Nat} (hd : d < 400) : ev sc 19 [.ref (bs j), .int (nI d), .int 1] (Wd g) Q = Q none (Wd (stS g j (sJs (g.1 j) 0 (d / 64) (d % 64) true))) := s_setHoliday (b := true) hj hd
theorem s_setHoliday0 (hj : j < 7) {d : Nat} (hd : d < 400) : ev sc 19 [.ref (bs j), .int (nI d), .int 0] (Wd g) Q = Q none (Wd (stS g j (sJs (g.1 j) 0 (d / 64) (d % 64) false))) := s_setHoliday (b := false) hj hd
theorem p_holiday1 (hJ : inv2 s) {x : Int32} : Stq sc 55 [.ref 0, .int x, .int 1] s := by
  have hI := hJ.1
  rcases ii_399 (x := x) with ⟨d, hd, rfl, d2⟩ | d2
  · by_cases e : hol s d = true
    · refine stp_q (u := -5) (by decide) (fun g fs n h e9 Q => ?_)
      subst e9
      simp only [↓en55, ↓u55_0, ↓u55_1, ↓u55_4, ↓u55_10, ↓u55_7, ↓u55_11, ↓u55_9, ↓u55_14, ↓u55_15, ↓u55_18, ↓u55_19, ↓u55_25, ↓u55_22, ↓u55_26, ↓u55_24, ↓u55_29, ↓u55_30, ↓u55_33, ↓u55_34, ↓u55_35, ↓u55_38, ↓u55_39, ↓u55_42, ↓u55_45, ↓c_isDate, ↓nf0, ↓s_o z7, ↓c_v_some, d2, n10, n00, if_false, ↓s_isHoliday z7 hd, e, bI_t, bI_f, if_true]
    · have e1 : ¬ bI (hol s d) = 1 := by
        rw [bI_1]
        exact e
      have hi := i2_holiday hJ (d := d) (b := true) hd
      have hh : ct (hol (sJs s 0 (d / 64) (d % 64) true)) 400 ≤ 400 := ct_le _ _
      generalize hs' : sJs s 0 (d / 64) (d % 64) true = s' at hi hh
      refine stp_a (u := nI (ct (hol s') 400)) (nI_nn (by omega)) hi (fun g fs n h e9 Q => ?_)
      subst e9
      have ha : ∀ Q, ev sc 20 [.ref (bs 0)] (Wd (stS (remG g fs n) 0 s')) Q = Q (some (.int (nI (ct (hol s') 400)))) (Wd (stS (remG g fs n) 0 s')) := fun Q => by
        rw [s_allHolidays z7, stS_at, holAll_eq hi.1]
      simp only [↓en55, ↓u55_0, ↓u55_1, ↓u55_4, ↓u55_10, ↓u55_7, ↓u55_11, ↓u55_9, ↓u55_14, ↓u55_15, ↓u55_18, ↓u55_19, ↓u55_25, ↓u55_22, ↓u55_26, ↓u55_24, ↓u55_29, ↓u55_30, ↓u55_33, ↓u55_34, ↓u55_35, ↓u55_38, ↓u55_39, ↓u55_42, ↓u55_45, ↓c_isDate, ↓nf0, ↓s_o z7, ↓c_v_some, d2, n10, if_false, ↓s_isHoliday z7 hd, e1, ↓m_o, ↓c_rem h, ↓c_v_none, s_setHoliday1 z7 hd, remG_0, hs', ha]
  · refine stp_q (u := -2) (by decide) (fun g fs n h e9 Q => ?_)
    subst e9
    simp only [↓en55, ↓u55_0, ↓u55_1, ↓u55_4, ↓u55_10, ↓u55_7, ↓u55_11, ↓u55_9, ↓u55_14, ↓u55_15, ↓u55_18, ↓u55_19, ↓u55_25, ↓u55_22, ↓u55_26, ↓u55_24, ↓u55_29, ↓u55_30, ↓u55_33, ↓u55_34, ↓u55_35, ↓u55_38, ↓u55_39, ↓u55_42, ↓u55_45, ↓c_isDate, ↓c_v_some, d2, n00, if_true]
theorem p_holiday0 (hJ : inv2 s) {x : Int32} : Stq sc 55 [.ref 0, .int x, .int 0] s := by
  have hI := hJ.1
  rcases ii_399 (x := x) with ⟨d, hd, rfl, d2⟩ | d2
  · by_cases e : hol s d = false
    · refine stp_q (u := -5) (by decide) (fun g fs n h e9 Q => ?_)
      subst e9
      simp only [↓en55, ↓u55_0, ↓u55_1, ↓u55_4, ↓u55_10, ↓u55_7, ↓u55_11, ↓u55_9, ↓u55_14, ↓u55_15, ↓u55_18, ↓u55_19, ↓u55_25, ↓u55_22, ↓u55_26, ↓u55_24, ↓u55_29, ↓u55_30, ↓u55_33, ↓u55_34, ↓u55_35, ↓u55_38, ↓u55_39, ↓u55_42, ↓u55_45, ↓c_isDate, ↓nf0, ↓s_o z7, ↓c_v_some, d2, n10, n00, if_false, ↓s_isHoliday z7 hd, e, bI_t, bI_f, if_true]
    · have e1 : ¬ bI (hol s d) = 0 := by
        rw [bI_0]
        exact e
      have hi := i2_holiday hJ (d := d) (b := false) hd
      have hh : ct (hol (sJs s 0 (d / 64) (d % 64) false)) 400 ≤ 400 := ct_le _ _
      generalize hs' : sJs s 0 (d / 64) (d % 64) false = s' at hi hh
      refine stp_a (u := nI (ct (hol s') 400)) (nI_nn (by omega)) hi (fun g fs n h e9 Q => ?_)
      subst e9
      have ha : ∀ Q, ev sc 20 [.ref (bs 0)] (Wd (stS (remG g fs n) 0 s')) Q = Q (some (.int (nI (ct (hol s') 400)))) (Wd (stS (remG g fs n) 0 s')) := fun Q => by
        rw [s_allHolidays z7, stS_at, holAll_eq hi.1]
      simp only [↓en55, ↓u55_0, ↓u55_1, ↓u55_4, ↓u55_10, ↓u55_7, ↓u55_11, ↓u55_9, ↓u55_14, ↓u55_15, ↓u55_18, ↓u55_19, ↓u55_25, ↓u55_22, ↓u55_26, ↓u55_24, ↓u55_29, ↓u55_30, ↓u55_33, ↓u55_34, ↓u55_35, ↓u55_38, ↓u55_39, ↓u55_42, ↓u55_45, ↓c_isDate, ↓nf0, ↓s_o z7, ↓c_v_some, d2, n10, if_false, ↓s_isHoliday z7 hd, e1, ↓m_o, ↓c_rem h, ↓c_v_none, s_setHoliday0 z7 hd, remG_0, hs', ha]
  · refine stp_q (u := -2) (by decide) (fun g fs n h e9 Q => ?_)
    subst e9
    simp only [↓en55, ↓u55_0, ↓u55_1, ↓u55_4, ↓u55_10, ↓u55_7, ↓u55_11, ↓u55_9, ↓u55_14, ↓u55_15, ↓u55_18, ↓u55_19, ↓u55_25, ↓u55_22, ↓u55_26, ↓u55_24, ↓u55_29, ↓u55_30, ↓u55_33, ↓u55_34, ↓u55_35, ↓u55_38, ↓u55_39, ↓u55_42, ↓u55_45, ↓c_isDate, ↓c_v_some, d2, n00, if_true]
theorem w_B1 (hj : j < 7) {i m : Nat} (hi : i < 8) : ev sc 9 [.ref (bs j + 9), .int (nI i), .int (nI m), .int 1] (Wd g) Q = Q none (Wd (stS g j (sJs (g.1 j) 1 i m true))) := w_B (b := true) hj hi
theorem w_B0 (hj : j < 7) {i m : Nat} (hi : i < 8) : ev sc 9 [.ref (bs j + 9), .int (nI i), .int (nI m), .int 0] (Wd g) Q = Q none (Wd (stS g j (sJs (g.1 j) 1 i m false))) := w_B (b := false) hj hi
theorem p_bar1 (hJ : inv2 s) {y x : Int32} : Stq sc 61 [.ref 0, .int y, .int x, .int 1] s := by
  have hI := hJ.1
  have hT8 := nT8 hI
  have h48 := (sl48 hI).1
  rcases ii_cases (v := y) (n := nT s) (by omega) with ⟨t, r1, rfl, r2⟩ | ⟨-, r2⟩
  · have ht : t < 8 := by omega
    rcases ii_cases (v := x) (n := slS s) (by omega) with ⟨m, m1', rfl, m2'⟩ | ⟨-, m2'⟩
    · have hm : m < 48 := by omega
      have hm6 : m < 64 := by omega
      by_cases eT : hT s t m = true
      · refine stp_q (u := -4) (by decide) (fun g fs n h e9 Q => ?_)
        subst e9
        simp only [↓en61, ↓u61_0, ↓u61_1, ↓u61_2, ↓u61_5, ↓u61_19, ↓u61_8, ↓u61_20, ↓u61_9, ↓u61_12, ↓u61_13, ↓u61_16, ↓u61_21, ↓u61_22, ↓u61_43, ↓u61_25, ↓u61_44, ↓u61_26, ↓u61_47, ↓u61_29, ↓u61_50, ↓u61_32, ↓u61_51, ↓u61_33, ↓u61_52, ↓u61_34, ↓u61_55, ↓u61_37, ↓u61_56, ↓u61_40, ↓u61_62, ↓u61_59, ↓u61_42, ↓u61_63, ↓u61_61, ↓u61_66, ↓u61_67, ↓u61_70, ↓u61_73, ↓u61_74, ↓u61_75, ↓u61_76, ↓u61_79, ↓u61_80, ↓u61_83, ↓u61_86, ↓u61_87, ↓u61_90, ↓m_o, ↓c_knowsTeacher, ↓nf0, ↓s_o z7, ↓s_knowsSlot z7, ↓c_v_some, nT_eq hI, sl_eq hI, r2, m2', n10, n00, if_false, if_true, ↓sf10 z7, ↓sf13 z7, ↓j_o1 z7, ↓j_o4 z7, ↓s_hasT z7 ht hm6, ↓s_hasB z7 ht hm6, eT, bI_t]
      have eT : hT s t m = false := by simpa using eT
      by_cases e : hB s t m = true
      · refine stp_q (u := -5) (by decide) (fun g fs n h e9 Q => ?_)
        subst e9
        simp only [↓en61, ↓u61_0, ↓u61_1, ↓u61_2, ↓u61_5, ↓u61_19, ↓u61_8, ↓u61_20, ↓u61_9, ↓u61_12, ↓u61_13, ↓u61_16, ↓u61_21, ↓u61_22, ↓u61_43, ↓u61_25, ↓u61_44, ↓u61_26, ↓u61_47, ↓u61_29, ↓u61_50, ↓u61_32, ↓u61_51, ↓u61_33, ↓u61_52, ↓u61_34, ↓u61_55, ↓u61_37, ↓u61_56, ↓u61_40, ↓u61_62, ↓u61_59, ↓u61_42, ↓u61_63, ↓u61_61, ↓u61_66, ↓u61_67, ↓u61_70, ↓u61_73, ↓u61_74, ↓u61_75, ↓u61_76, ↓u61_79, ↓u61_80, ↓u61_83, ↓u61_86, ↓u61_87, ↓u61_90, ↓m_o, ↓c_knowsTeacher, ↓nf0, ↓s_o z7, ↓s_knowsSlot z7, ↓c_v_some, nT_eq hI, sl_eq hI, r2, m2', n10, n00, if_false, if_true, ↓sf10 z7, ↓sf13 z7, ↓j_o1 z7, ↓j_o4 z7, ↓s_hasT z7 ht hm6, ↓s_hasB z7 ht hm6, eT, bI_f, e, bI_t, bI_f]
      · have e1 : ¬ bI (hB s t m) = 1 := by
          rw [bI_1]
          exact e
        have hi := i2_bar hJ (t := t) (m := m) (b := true) ht m1'
        generalize hs' : sJs s 1 t m true = s' at hi
        have hrow : pcn (s'.2.2 1 t) = ct (hB s' t) (slS s') := row_sl hi.1 (fun q hq => hi.1.2.2.2.2.2.2.2.1 t q hq)
        have hb := pcn_le (s'.2.2 1 t)
        refine stp_a (u := nI (pcn (s'.2.2 1 t))) (nI_nn (by omega)) hi (fun g fs n h e9 Q => ?_)
        subst e9
        have ha : ∀ Q, ev sc 6 [.ref (bs 0 + 9), .int (nI t)] (Wd (stS (remG g fs n) 0 s')) Q = Q (some (.int (nI (pcn (s'.2.2 1 t))))) (Wd (stS (remG g fs n) 0 s')) := fun Q => by
          rw [s_sizeB z7 ht, stS_at]
        simp only [↓en61, ↓u61_0, ↓u61_1, ↓u61_2, ↓u61_5, ↓u61_19, ↓u61_8, ↓u61_20, ↓u61_9, ↓u61_12, ↓u61_13, ↓u61_16, ↓u61_21, ↓u61_22, ↓u61_43, ↓u61_25, ↓u61_44, ↓u61_26, ↓u61_47, ↓u61_29, ↓u61_50, ↓u61_32, ↓u61_51, ↓u61_33, ↓u61_52, ↓u61_34, ↓u61_55, ↓u61_37, ↓u61_56, ↓u61_40, ↓u61_62, ↓u61_59, ↓u61_42, ↓u61_63, ↓u61_61, ↓u61_66, ↓u61_67, ↓u61_70, ↓u61_73, ↓u61_74, ↓u61_75, ↓u61_76, ↓u61_79, ↓u61_80, ↓u61_83, ↓u61_86, ↓u61_87, ↓u61_90, ↓m_o, ↓c_knowsTeacher, ↓nf0, ↓s_o z7, ↓s_knowsSlot z7, ↓c_v_some, nT_eq hI, sl_eq hI, r2, m2', n10, n00, if_false, if_true, ↓sf10 z7, ↓sf13 z7, ↓j_o1 z7, ↓j_o4 z7, ↓s_hasT z7 ht hm6, ↓s_hasB z7 ht hm6, eT, bI_f, e1, ↓c_rem h, ↓c_v_none, w_B1 z7 ht, remG_0, hs', ha]
    · refine stp_q (u := -1) (by decide) (fun g fs n h e9 Q => ?_)
      subst e9
      simp only [↓en61, ↓u61_0, ↓u61_1, ↓u61_2, ↓u61_5, ↓u61_19, ↓u61_8, ↓u61_20, ↓u61_9, ↓u61_12, ↓u61_13, ↓u61_16, ↓u61_21, ↓u61_22, ↓u61_43, ↓u61_25, ↓u61_44, ↓u61_26, ↓u61_47, ↓u61_29, ↓u61_50, ↓u61_32, ↓u61_51, ↓u61_33, ↓u61_52, ↓u61_34, ↓u61_55, ↓u61_37, ↓u61_56, ↓u61_40, ↓u61_62, ↓u61_59, ↓u61_42, ↓u61_63, ↓u61_61, ↓u61_66, ↓u61_67, ↓u61_70, ↓u61_73, ↓u61_74, ↓u61_75, ↓u61_76, ↓u61_79, ↓u61_80, ↓u61_83, ↓u61_86, ↓u61_87, ↓u61_90, ↓m_o, ↓c_knowsTeacher, ↓nf0, ↓s_o z7, ↓s_knowsSlot z7, ↓c_v_some, nT_eq hI, sl_eq hI, r2, m2', n10, n00, if_false, if_true]
  · refine stp_q (u := -1) (by decide) (fun g fs n h e9 Q => ?_)
    subst e9
    simp only [↓en61, ↓u61_0, ↓u61_1, ↓u61_2, ↓u61_5, ↓u61_19, ↓u61_8, ↓u61_20, ↓u61_9, ↓u61_12, ↓u61_13, ↓u61_16, ↓u61_21, ↓u61_22, ↓u61_43, ↓u61_25, ↓u61_44, ↓u61_26, ↓u61_47, ↓u61_29, ↓u61_50, ↓u61_32, ↓u61_51, ↓u61_33, ↓u61_52, ↓u61_34, ↓u61_55, ↓u61_37, ↓u61_56, ↓u61_40, ↓u61_62, ↓u61_59, ↓u61_42, ↓u61_63, ↓u61_61, ↓u61_66, ↓u61_67, ↓u61_70, ↓u61_73, ↓u61_74, ↓u61_75, ↓u61_76, ↓u61_79, ↓u61_80, ↓u61_83, ↓u61_86, ↓u61_87, ↓u61_90, ↓m_o, ↓c_knowsTeacher, ↓c_v_some, nT_eq hI, r2, n00, if_true]
theorem p_bar0 (hJ : inv2 s) {y x : Int32} : Stq sc 61 [.ref 0, .int y, .int x, .int 0] s := by
  have hI := hJ.1
  have hT8 := nT8 hI
  have h48 := (sl48 hI).1
  rcases ii_cases (v := y) (n := nT s) (by omega) with ⟨t, r1, rfl, r2⟩ | ⟨-, r2⟩
  · have ht : t < 8 := by omega
    rcases ii_cases (v := x) (n := slS s) (by omega) with ⟨m, m1', rfl, m2'⟩ | ⟨-, m2'⟩
    · have hm : m < 48 := by omega
      have hm6 : m < 64 := by omega
      by_cases e : hB s t m = false
      · refine stp_q (u := -5) (by decide) (fun g fs n h e9 Q => ?_)
        subst e9
        simp only [↓en61, ↓u61_0, ↓u61_1, ↓u61_2, ↓u61_5, ↓u61_19, ↓u61_8, ↓u61_20, ↓u61_9, ↓u61_12, ↓u61_13, ↓u61_16, ↓u61_21, ↓u61_22, ↓u61_43, ↓u61_25, ↓u61_44, ↓u61_26, ↓u61_47, ↓u61_29, ↓u61_50, ↓u61_32, ↓u61_51, ↓u61_33, ↓u61_52, ↓u61_34, ↓u61_55, ↓u61_37, ↓u61_56, ↓u61_40, ↓u61_62, ↓u61_59, ↓u61_42, ↓u61_63, ↓u61_61, ↓u61_66, ↓u61_67, ↓u61_70, ↓u61_73, ↓u61_74, ↓u61_75, ↓u61_76, ↓u61_79, ↓u61_80, ↓u61_83, ↓u61_86, ↓u61_87, ↓u61_90, ↓m_o, ↓c_knowsTeacher, ↓nf0, ↓s_o z7, ↓s_knowsSlot z7, ↓c_v_some, nT_eq hI, sl_eq hI, r2, m2', n10, n00, if_false, if_true, ↓sf10 z7, ↓sf13 z7, ↓j_o1 z7, ↓j_o4 z7, ↓s_hasT z7 ht hm6, ↓s_hasB z7 ht hm6, e, bI_t, bI_f]
      · have e1 : ¬ bI (hB s t m) = 0 := by
          rw [bI_0]
          exact e
        have hi := i2_bar hJ (t := t) (m := m) (b := false) ht m1'
        generalize hs' : sJs s 1 t m false = s' at hi
        have hrow : pcn (s'.2.2 1 t) = ct (hB s' t) (slS s') := row_sl hi.1 (fun q hq => hi.1.2.2.2.2.2.2.2.1 t q hq)
        have hb := pcn_le (s'.2.2 1 t)
        refine stp_a (u := nI (pcn (s'.2.2 1 t))) (nI_nn (by omega)) hi (fun g fs n h e9 Q => ?_)
        subst e9
        have ha : ∀ Q, ev sc 6 [.ref (bs 0 + 9), .int (nI t)] (Wd (stS (remG g fs n) 0 s')) Q = Q (some (.int (nI (pcn (s'.2.2 1 t))))) (Wd (stS (remG g fs n) 0 s')) := fun Q => by
          rw [s_sizeB z7 ht, stS_at]
        simp only [↓en61, ↓u61_0, ↓u61_1, ↓u61_2, ↓u61_5, ↓u61_19, ↓u61_8, ↓u61_20, ↓u61_9, ↓u61_12, ↓u61_13, ↓u61_16, ↓u61_21, ↓u61_22, ↓u61_43, ↓u61_25, ↓u61_44, ↓u61_26, ↓u61_47, ↓u61_29, ↓u61_50, ↓u61_32, ↓u61_51, ↓u61_33, ↓u61_52, ↓u61_34, ↓u61_55, ↓u61_37, ↓u61_56, ↓u61_40, ↓u61_62, ↓u61_59, ↓u61_42, ↓u61_63, ↓u61_61, ↓u61_66, ↓u61_67, ↓u61_70, ↓u61_73, ↓u61_74, ↓u61_75, ↓u61_76, ↓u61_79, ↓u61_80, ↓u61_83, ↓u61_86, ↓u61_87, ↓u61_90, ↓m_o, ↓c_knowsTeacher, ↓nf0, ↓s_o z7, ↓s_knowsSlot z7, ↓c_v_some, nT_eq hI, sl_eq hI, r2, m2', n10, n00, if_false, if_true, ↓sf10 z7, ↓sf13 z7, ↓j_o1 z7, ↓j_o4 z7, ↓s_hasT z7 ht hm6, ↓s_hasB z7 ht hm6, e1, ↓c_rem h, ↓c_v_none, w_B0 z7 ht, remG_0, hs', ha]
    · refine stp_q (u := -1) (by decide) (fun g fs n h e9 Q => ?_)
      subst e9
      simp only [↓en61, ↓u61_0, ↓u61_1, ↓u61_2, ↓u61_5, ↓u61_19, ↓u61_8, ↓u61_20, ↓u61_9, ↓u61_12, ↓u61_13, ↓u61_16, ↓u61_21, ↓u61_22, ↓u61_43, ↓u61_25, ↓u61_44, ↓u61_26, ↓u61_47, ↓u61_29, ↓u61_50, ↓u61_32, ↓u61_51, ↓u61_33, ↓u61_52, ↓u61_34, ↓u61_55, ↓u61_37, ↓u61_56, ↓u61_40, ↓u61_62, ↓u61_59, ↓u61_42, ↓u61_63, ↓u61_61, ↓u61_66, ↓u61_67, ↓u61_70, ↓u61_73, ↓u61_74, ↓u61_75, ↓u61_76, ↓u61_79, ↓u61_80, ↓u61_83, ↓u61_86, ↓u61_87, ↓u61_90, ↓m_o, ↓c_knowsTeacher, ↓nf0, ↓s_o z7, ↓s_knowsSlot z7, ↓c_v_some, nT_eq hI, sl_eq hI, r2, m2', n10, n00, if_false, if_true]
  · refine stp_q (u := -1) (by decide) (fun g fs n h e9 Q => ?_)
    subst e9
    simp only [↓en61, ↓u61_0, ↓u61_1, ↓u61_2, ↓u61_5, ↓u61_19, ↓u61_8, ↓u61_20, ↓u61_9, ↓u61_12, ↓u61_13, ↓u61_16, ↓u61_21, ↓u61_22, ↓u61_43, ↓u61_25, ↓u61_44, ↓u61_26, ↓u61_47, ↓u61_29, ↓u61_50, ↓u61_32, ↓u61_51, ↓u61_33, ↓u61_52, ↓u61_34, ↓u61_55, ↓u61_37, ↓u61_56, ↓u61_40, ↓u61_62, ↓u61_59, ↓u61_42, ↓u61_63, ↓u61_61, ↓u61_66, ↓u61_67, ↓u61_70, ↓u61_73, ↓u61_74, ↓u61_75, ↓u61_76, ↓u61_79, ↓u61_80, ↓u61_83, ↓u61_86, ↓u61_87, ↓u61_90, ↓m_o, ↓c_knowsTeacher, ↓c_v_some, nT_eq hI, r2, n00, if_true]
theorem errS_neg {v m r : Int32} (h : ¬ errS s v m r = 0) : errS s v m r < 0 := by
  revert h
  unfold errS
  split
  · exact fun _ => by decide
  · split
    · exact fun _ => by decide
    · split
      · exact fun _ => by decide
      · split
        · exact fun h => absurd rfl h
        · exact fun _ => by decide
theorem p_place (hJ : inv2 s) {v x y : Int32} : Stq sc 62 [.ref 0, .int v, .int x, .int y] s := by
  have hI := hJ.1
  have h48 := (sl48 hI).1
  have h20 := nC20 hI
  have h6 := nR6 hI
  by_cases e : errS s v x y = 0
  · obtain ⟨c, m, r, rfl, rfl, rfl, c1, m1', r1', h0⟩ := errS_0 hI e
    have hi := i2_in hJ c1 r1' m1' h0
    generalize hs' : setL s c m r true = s' at hi
    have hb : plc s' c ≤ 64 := pcn_le _
    refine stp_a (u := nI (plc s' c)) (nI_nn (by omega)) hi (fun g fs n h e9 Q => ?_)
    subst e9
    have hst := fun Q => s_set1 (sc := sc) (g := remG g fs n) (Q := Q) (m := m) (r := r) (c := c) z7 (by rw [remG_0]; exact hI) (by rw [remG_0]; exact c1) (by omega)
    rw [remG_0, hs'] at hst
    have hp : ∀ Q, ev sc 36 [.ref (bs 0), .int (nI c)] (Wd (stS (remG g fs n) 0 s')) Q = Q (some (.int (nI (plc s' c)))) (Wd (stS (remG g fs n) 0 s')) := fun Q => by
      rw [s_placed z7 (show c < 20 by omega), stS_at]
    simp only [↓en62, ↓u62_0, ↓u62_1, ↓u62_4, ↓u62_5, ↓u62_6, ↓u62_7, ↓u62_10, ↓u62_12, ↓u62_14, ↓u62_20, ↓u62_17, ↓u62_21, ↓u62_19, ↓u62_24, ↓u62_25, ↓u62_28, ↓u62_29, ↓u62_30, ↓u62_31, ↓u62_32, ↓u62_35, ↓u62_36, ↓u62_39, ↓u62_40, ↓u62_43, ↓nf0, ↓s_o z7, ↓s_errorOfPlacing z7 hI.2.1 hI.2.2.1, ↓c_v_some, e, n00, if_true, ↓m_o, ↓c_rem h, ↓c_v_none, hst, hp]
  · refine stp_q (u := errS s v x y) (errS_neg e) (fun g fs n h e9 Q => ?_)
    subst e9
    simp only [↓en62, ↓u62_0, ↓u62_1, ↓u62_4, ↓u62_5, ↓u62_6, ↓u62_7, ↓u62_10, ↓u62_12, ↓u62_14, ↓u62_20, ↓u62_17, ↓u62_21, ↓u62_19, ↓u62_24, ↓u62_25, ↓u62_28, ↓u62_29, ↓u62_30, ↓u62_31, ↓u62_32, ↓u62_35, ↓u62_36, ↓u62_39, ↓u62_40, ↓u62_43, ↓nf0, ↓s_o z7, ↓s_errorOfPlacing z7 hI.2.1 hI.2.2.1, ↓c_v_some, e, if_false]
theorem p_takeAway (hJ : inv2 s) {v x : Int32} : Stq sc 63 [.ref 0, .int v, .int x] s := by
  have hI := hJ.1
  have h48 := (sl48 hI).1
  have h20 := nC20 hI
  have h6 := nR6 hI
  rcases klS_1 (v := v) (m := x) hI with e | ⟨e, c, m, r, rfl, rfl, c1, m1', r1', hc, hx, hrm⟩
  · refine stp_q (u := -1) (by decide) (fun g fs n h e9 Q => ?_)
    subst e9
    simp only [↓en63, ↓u63_0, ↓u63_1, ↓u63_4, ↓u63_5, ↓u63_6, ↓u63_9, ↓u63_14, ↓u63_12, ↓u63_15, ↓u63_13, ↓u63_18, ↓u63_19, ↓u63_22, ↓u63_23, ↓u63_24, ↓u63_25, ↓u63_28, ↓u63_29, ↓u63_30, ↓u63_33, ↓u63_34, ↓u63_37, ↓u63_38, ↓u63_41, ↓u63_42, ↓u63_45, ↓nf0, ↓s_o z7, ↓s_knowsLesson z7 hI.2.1, ↓c_v_some, e, n00, if_true]
  · have hi := i2_out hJ (show r < 6 by omega) hx
    generalize hs' : setL s c m r false = s' at hi
    have hb : plc s' c ≤ 64 := pcn_le _
    refine stp_a (u := nI (plc s' c)) (nI_nn (by omega)) hi (fun g fs n h e9 Q => ?_)
    subst e9
    have hst := fun Q => s_set0 (sc := sc) (g := remG g fs n) (Q := Q) (m := m) (r := r) (c := c) z7 (by rw [remG_0]; exact hI) (by rw [remG_0]; exact c1) (by omega)
    have hro := fun Q => s_roomOf (sc := sc) (g := remG g fs n) (Q := Q) (j := 0) (c := c) (m := m) z7 (by rw [remG_0]; exact hI.2.1) (by omega) (by omega)
    rw [remG_0] at hst hro
    rw [hs'] at hst
    rw [roomS_rm hI, hrm] at hro
    have hp : ∀ Q, ev sc 36 [.ref (bs 0), .int (nI c)] (Wd (stS (remG g fs n) 0 s')) Q = Q (some (.int (nI (plc s' c)))) (Wd (stS (remG g fs n) 0 s')) := fun Q => by
      rw [s_placed z7 (show c < 20 by omega), stS_at]
    simp only [↓en63, ↓u63_0, ↓u63_1, ↓u63_4, ↓u63_5, ↓u63_6, ↓u63_9, ↓u63_14, ↓u63_12, ↓u63_15, ↓u63_13, ↓u63_18, ↓u63_19, ↓u63_22, ↓u63_23, ↓u63_24, ↓u63_25, ↓u63_28, ↓u63_29, ↓u63_30, ↓u63_33, ↓u63_34, ↓u63_37, ↓u63_38, ↓u63_41, ↓u63_42, ↓u63_45, ↓nf0, ↓s_o z7, ↓s_knowsLesson z7 hI.2.1, ↓c_v_some, e, n10, if_false, ↓m_o, ↓c_rem h, ↓c_v_none, ↓hro, rmI, hst, hp]
end
