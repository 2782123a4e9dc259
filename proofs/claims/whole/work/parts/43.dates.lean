/-! THE TWO AGREE: dates and counts -/
def nxS (s : SV) (y : Int32) : Nat → Nat → Int32
  | 0, _ => -5
  | d + 1, i => if hol s i = false ∧ nI (ct (fun q => !hol s q) i % nD s) = y then nI i else nxS s y d (i + 1)
theorem nxS_succ {s : SV} {y : Int32} {d i : Nat} : nxS s y (d + 1) i = if hol s i = false ∧ nI (ct (fun q => !hol s q) i % nD s) = y then nI i else nxS s y d (i + 1) := rfl
section
variable {sc : Nat × (Nat → Int32)} {g : SG} {Q : Option Value → ri_W → Prop}
theorem m_dayBy {s : SV} (hI : inv s) (hM : g.2.2.2.2 0 = mdl s) {d : Nat} (hd : d < 400) : ev sc 124 [.ref 154, .int (nI d)] (Wd g) Q = Q (some (.int (if hol s d = true then -5 else nI (ct (fun q => !hol s q) d % nD s)))) (Wd g) := by
  have h2 := hI.2.1.1.2
  have hc := ct_not (p := hol s) d
  have e : nI d - nI (ct (hol s) d) = nI (ct (fun q => !hol s q) d) := by
    rw [nI_sub (by omega)]
    congr 1
    omega
  have h0 : ¬ nI (nD s) = 0 := nI_ne0 (by omega) (by omega)
  have hr : nI (ct (fun q => !hol s q) d) - nI (ct (fun q => !hol s q) d) / nI (nD s) * nI (nD s) = nI (ct (fun q => !hol s q) d % nD s) := pk_rem (by omega) (by omega) (by omega)
  simp only [↓en124, ↓u124_0, ↓u124_1, ↓u124_4, ↓u124_7, ↓u124_8, ↓u124_9, ↓u124_10, ↓u124_11, ↓u124_19, ↓u124_14, ↓u124_20, ↓u124_16, ↓u124_21, ↓u124_33, ↓u124_22, ↓u124_25, ↓u124_26, ↓u124_27, ↓u124_30, ↓u124_31, ↓u124_32, ↓df0, ↓dI0, ↓d_o, hM, x1492, nAt (show 1492 + d < 1892 by omega) (by decide), nI_clamp (show 1492 + d < 2 ^ 31 by omega), mdl_h hd, bI_1, if_true, ↓m_holidays hM (show d ≤ 400 by omega), ↓c_v_some, r0, m0, mdl_n (show 0 < 6 by decide), nD_eq hI, h0, if_false, e, hr]
  cases hol s d <;> simp
theorem ii_399 {x : Int32} : (∃ d, d < 400 ∧ x = nI d ∧ ii x 0 399 = 1) ∨ ii x 0 399 = 0 := by
  rcases ii_cases (v := x) (n := 400) (by decide) with ⟨k, h1, h2, h3⟩ | ⟨-, h3⟩
  · exact .inl ⟨k, h1, h2, h3⟩
  · exact .inr h3
theorem o_dayOf (h : R g) {x : Int32} : both sc 89 125 [.int x] g := by
  have hI := h.2.1
  have hM := h.2.2.1
  rcases ii_399 (x := x) with ⟨d, hd, rfl, d2⟩ | d2
  · have hc := ct_not (p := hol (g.1 0)) d
    refine both_q h (v := if hol (g.1 0) d = true then -5 else nI (ct (fun q => !hol (g.1 0) q) d % nD (g.1 0))) (fun Q => ?_) (fun Q => ?_)
    · simp only [↓en89, ↓u89_0, ↓u89_1, ↓u89_4, ↓u89_10, ↓u89_7, ↓u89_11, ↓u89_9, ↓u89_14, ↓u89_15, ↓u89_18, ↓u89_24, ↓u89_21, ↓u89_25, ↓u89_23, ↓u89_28, ↓u89_29, ↓u89_32, ↓u89_33, ↓u89_36, ↓u89_39, ↓c_isDate, ↓nf0, ↓s_o z7, ↓c_v_some, d2, n10, if_false, ↓s_isHoliday z7 hd, ↓s_openBefore z7 (show d ≤ 400 by omega), ↓s_dayAfter z7 hI.2.1 (show ct (fun q => !hol (g.1 0) q) d < 2 ^ 31 by omega)]
      cases hol (g.1 0) d <;> simp [bI]
    · simp only [↓en125, ↓u125_0, ↓u125_1, ↓u125_2, ↓u125_5, ↓u125_8, ↓u125_19, ↓u125_11, ↓u125_21, ↓u125_12, ↓u125_13, ↓u125_16, ↓d_o, ↓m_isIn, ↓c_v_some, d2, n10, if_false, ↓m_dayBy hI hM hd]
  · refine both_q h (v := -2) (fun Q => ?_) (fun Q => ?_)
    · simp only [↓en89, ↓u89_0, ↓u89_1, ↓u89_4, ↓u89_10, ↓u89_7, ↓u89_11, ↓u89_9, ↓u89_14, ↓u89_15, ↓u89_18, ↓u89_24, ↓u89_21, ↓u89_25, ↓u89_23, ↓u89_28, ↓u89_29, ↓u89_32, ↓u89_33, ↓u89_36, ↓u89_39, ↓c_isDate, ↓c_v_some, d2, n00, if_true]
    · simp only [↓en125, ↓u125_0, ↓u125_1, ↓u125_2, ↓u125_5, ↓u125_8, ↓u125_19, ↓u125_11, ↓u125_21, ↓u125_12, ↓u125_13, ↓u125_16, ↓d_o, ↓m_isIn, ↓c_v_some, d2, n00, if_true]
theorem l400 {i : Nat} (h : i < 400) : ¬ (400 : Int32) ≤ nI i := nI_ge (b := 400) h (by decide)
theorem g400 {i : Nat} (h : i = 400) : (400 : Int32) ≤ nI i := by rw [h]; decide
theorem c_nextDate_l (hI : inv (g.1 0)) {x y : Int32} : ∀ (d i : Nat), i + d = 400 → rv sc 90 39 [(0, .ref 0), (1, .int x), (2, .int y), (3, .int (nI (ct (fun q => !hol (g.1 0) q) i))), (4, .int (nI i))] [] (Wd g) Q = Q (some (.int (nxS (g.1 0) y d i))) (Wd g) := by
  intro d
  induction d with
  | zero =>
    intro i hi
    rw [u90_39]
    simp only [↓u90_0, ↓u90_1, ↓u90_4, ↓u90_24, ↓u90_7, ↓u90_26, ↓u90_8, ↓u90_9, ↓u90_10, ↓u90_13, ↓u90_16, ↓u90_17, ↓u90_18, ↓u90_21, ↓u90_27, ↓u90_28, ↓u90_31, ↓u90_32, ↓u90_35, ↓u90_36, ↓u90_37, ↓u90_41, ↓u90_44, ↓u90_83, ↓u90_47, ↓u90_85, ↓u90_48, ↓u90_51, ↓u90_53, ↓u90_56, ↓u90_77, ↓u90_59, ↓u90_80, ↓u90_60, ↓u90_63, ↓u90_64, ↓u90_67, ↓u90_68, ↓u90_74, ↓u90_71, ↓u90_73, g400 (show i = 400 by omega), if_true, if_false]
    rfl
  | succ d ih =>
    intro i hi
    have hc := ct_not (p := hol (g.1 0)) i
    have ih1 := ih (i + 1) (by omega)
    rw [u90_39]
    simp only [↓u90_0, ↓u90_1, ↓u90_4, ↓u90_24, ↓u90_7, ↓u90_26, ↓u90_8, ↓u90_9, ↓u90_10, ↓u90_13, ↓u90_16, ↓u90_17, ↓u90_18, ↓u90_21, ↓u90_27, ↓u90_28, ↓u90_31, ↓u90_32, ↓u90_35, ↓u90_36, ↓u90_37, ↓u90_41, ↓u90_44, ↓u90_83, ↓u90_47, ↓u90_85, ↓u90_48, ↓u90_51, ↓u90_53, ↓u90_56, ↓u90_77, ↓u90_59, ↓u90_80, ↓u90_60, ↓u90_63, ↓u90_64, ↓u90_67, ↓u90_68, ↓u90_74, ↓u90_71, ↓u90_73, l400 (show i < 400 by omega), if_true, if_false, ↓nf0, ↓s_o z7, ↓s_isHoliday z7 (show i < 400 by omega), ↓c_v_some, ↓s_dayAfter z7 hI.2.1 (show ct (fun q => !hol (g.1 0) q) i < 2 ^ 31 by omega), nI_1]
    rw [nxS_succ]
    cases e : hol (g.1 0) i
    · simp only [ct, e, Bool.not_false, if_true] at ih1
      by_cases e2 : nI (ct (fun q => !hol (g.1 0) q) i % nD (g.1 0)) = y
      · simp [bI, e2]
      · simp [bI, e2, ih1]
    · simp only [ct, e, Bool.not_true, Bool.false_eq_true, if_false, Nat.add_zero] at ih1
      simp [bI, ih1]
theorem m_nextDate_l {s : SV} (hI : inv s) (hM : g.2.2.2.2 0 = mdl s) {x y : Int32} (hy : y ≠ -5) : ∀ (d i : Nat), i + d = 400 → rv sc 126 32 [(0, .ref 154), (1, .int x), (2, .int y), (3, .int (nI i))] [] (Wd g) Q = Q (some (.int (nxS s y d i))) (Wd g) := by
  intro d
  induction d with
  | zero =>
    intro i hi
    rw [u126_32]
    simp only [↓u126_0, ↓u126_1, ↓u126_2, ↓u126_5, ↓u126_8, ↓u126_27, ↓u126_11, ↓u126_29, ↓u126_12, ↓u126_13, ↓u126_14, ↓u126_17, ↓u126_18, ↓u126_19, ↓u126_20, ↓u126_21, ↓u126_24, ↓u126_30, ↓u126_31, ↓u126_33, ↓u126_36, ↓u126_56, ↓u126_39, ↓u126_58, ↓u126_40, ↓u126_41, ↓u126_44, ↓u126_45, ↓u126_50, ↓u126_48, ↓u126_53, ↓u126_49, g400 (show i = 400 by omega), if_true, if_false]
    rfl
  | succ d ih =>
    intro i hi
    have ih1 := ih (i + 1) (by omega)
    rw [u126_32]
    simp only [↓u126_0, ↓u126_1, ↓u126_2, ↓u126_5, ↓u126_8, ↓u126_27, ↓u126_11, ↓u126_29, ↓u126_12, ↓u126_13, ↓u126_14, ↓u126_17, ↓u126_18, ↓u126_19, ↓u126_20, ↓u126_21, ↓u126_24, ↓u126_30, ↓u126_31, ↓u126_33, ↓u126_36, ↓u126_56, ↓u126_39, ↓u126_58, ↓u126_40, ↓u126_41, ↓u126_44, ↓u126_45, ↓u126_50, ↓u126_48, ↓u126_53, ↓u126_49, l400 (show i < 400 by omega), if_true, if_false, ↓d_o, ↓m_dayBy hI hM (show i < 400 by omega), ↓c_v_some, nI_1, ih1]
    rw [nxS_succ]
    cases e : hol s i
    · by_cases e2 : nI (ct (fun q => !hol s q) i % nD s) = y <;> simp [e2]
    · simp [Ne.symm hy]
theorem o_nextDate (h : R g) {x y : Int32} : both sc 90 126 [.int x, .int y] g := by
  have hI := h.2.1
  have hM := h.2.2.1
  have hD8 := nD8 hI
  rcases ii_399 (x := x) with ⟨d, hd, rfl, d2⟩ | d2
  · rcases ii_cases (v := y) (n := nD (g.1 0)) (by omega) with ⟨k, k1, rfl, k2⟩ | ⟨-, k2⟩
    · refine both_q h (v := nxS (g.1 0) (nI k) (400 - d) d) (fun Q => ?_) (fun Q => ?_)
      · simp only [↓en90, ↓u90_0, ↓u90_1, ↓u90_4, ↓u90_24, ↓u90_7, ↓u90_26, ↓u90_8, ↓u90_9, ↓u90_10, ↓u90_13, ↓u90_16, ↓u90_17, ↓u90_18, ↓u90_21, ↓u90_27, ↓u90_28, ↓u90_31, ↓u90_32, ↓u90_35, ↓u90_36, ↓u90_37, ↓u90_41, ↓u90_44, ↓u90_83, ↓u90_47, ↓u90_85, ↓u90_48, ↓u90_51, ↓u90_53, ↓u90_56, ↓u90_77, ↓u90_59, ↓u90_80, ↓u90_60, ↓u90_63, ↓u90_64, ↓u90_67, ↓u90_68, ↓u90_74, ↓u90_71, ↓u90_73, ↓c_isDate, ↓s_isIn, ↓nf0, ↓s_o z7, ↓sf0 z7, ↓c_v_some, d2, nD_eq hI, k2, n10, if_false, ↓s_openBefore z7 (show d ≤ 400 by omega)]
        exact c_nextDate_l hI (400 - d) d (by omega)
      · simp only [↓en126, ↓u126_0, ↓u126_1, ↓u126_2, ↓u126_5, ↓u126_8, ↓u126_27, ↓u126_11, ↓u126_29, ↓u126_12, ↓u126_13, ↓u126_14, ↓u126_17, ↓u126_18, ↓u126_19, ↓u126_20, ↓u126_21, ↓u126_24, ↓u126_30, ↓u126_31, ↓u126_33, ↓u126_36, ↓u126_56, ↓u126_39, ↓u126_58, ↓u126_40, ↓u126_41, ↓u126_44, ↓u126_45, ↓u126_50, ↓u126_48, ↓u126_53, ↓u126_49, ↓d_o, ↓m_isIn, ↓df0, ↓dI0, hM, r0, m0, if_true, mdl_n (show 0 < 6 by decide), ↓c_v_some, d2, nD_eq hI, m_isIn, k2, n10, if_false]
        exact m_nextDate_l hI hM (nI_n5 (by omega)) (400 - d) d (by omega)
    · refine both_q h (v := -2) (fun Q => ?_) (fun Q => ?_)
      · simp only [↓en90, ↓u90_0, ↓u90_1, ↓u90_4, ↓u90_24, ↓u90_7, ↓u90_26, ↓u90_8, ↓u90_9, ↓u90_10, ↓u90_13, ↓u90_16, ↓u90_17, ↓u90_18, ↓u90_21, ↓u90_27, ↓u90_28, ↓u90_31, ↓u90_32, ↓u90_35, ↓u90_36, ↓u90_37, ↓u90_41, ↓u90_44, ↓u90_83, ↓u90_47, ↓u90_85, ↓u90_48, ↓u90_51, ↓u90_53, ↓u90_56, ↓u90_77, ↓u90_59, ↓u90_80, ↓u90_60, ↓u90_63, ↓u90_64, ↓u90_67, ↓u90_68, ↓u90_74, ↓u90_71, ↓u90_73, ↓c_isDate, ↓s_isIn, ↓nf0, ↓s_o z7, ↓sf0 z7, ↓c_v_some, d2, nD_eq hI, k2, n10, n00, if_true, if_false]
      · simp only [↓en126, ↓u126_0, ↓u126_1, ↓u126_2, ↓u126_5, ↓u126_8, ↓u126_27, ↓u126_11, ↓u126_29, ↓u126_12, ↓u126_13, ↓u126_14, ↓u126_17, ↓u126_18, ↓u126_19, ↓u126_20, ↓u126_21, ↓u126_24, ↓u126_30, ↓u126_31, ↓u126_33, ↓u126_36, ↓u126_56, ↓u126_39, ↓u126_58, ↓u126_40, ↓u126_41, ↓u126_44, ↓u126_45, ↓u126_50, ↓u126_48, ↓u126_53, ↓u126_49, ↓d_o, ↓m_isIn, ↓df0, ↓dI0, hM, r0, m0, if_true, mdl_n (show 0 < 6 by decide), ↓c_v_some, d2, nD_eq hI, m_isIn, k2, n10, n00, if_false]
  · refine both_q h (v := -2) (fun Q => ?_) (fun Q => ?_)
    · simp only [↓en90, ↓u90_0, ↓u90_1, ↓u90_4, ↓u90_24, ↓u90_7, ↓u90_26, ↓u90_8, ↓u90_9, ↓u90_10, ↓u90_13, ↓u90_16, ↓u90_17, ↓u90_18, ↓u90_21, ↓u90_27, ↓u90_28, ↓u90_31, ↓u90_32, ↓u90_35, ↓u90_36, ↓u90_37, ↓u90_41, ↓u90_44, ↓u90_83, ↓u90_47, ↓u90_85, ↓u90_48, ↓u90_51, ↓u90_53, ↓u90_56, ↓u90_77, ↓u90_59, ↓u90_80, ↓u90_60, ↓u90_63, ↓u90_64, ↓u90_67, ↓u90_68, ↓u90_74, ↓u90_71, ↓u90_73, ↓c_isDate, ↓c_v_some, d2, n00, if_true]
    · simp only [↓en126, ↓u126_0, ↓u126_1, ↓u126_2, ↓u126_5, ↓u126_8, ↓u126_27, ↓u126_11, ↓u126_29, ↓u126_12, ↓u126_13, ↓u126_14, ↓u126_17, ↓u126_18, ↓u126_19, ↓u126_20, ↓u126_21, ↓u126_24, ↓u126_30, ↓u126_31, ↓u126_33, ↓u126_36, ↓u126_56, ↓u126_39, ↓u126_58, ↓u126_40, ↓u126_41, ↓u126_44, ↓u126_45, ↓u126_50, ↓u126_48, ↓u126_53, ↓u126_49, ↓d_o, ↓m_isIn, ↓c_v_some, d2, n00, if_true]
theorem o_count (h : R g) {x : Int32} : both sc 91 177 [.int x] g := by
  have hI := h.2.1
  have hM := h.2.2.1
  have hn := hI.2.1
  obtain ⟨fs, n, -, -, -, st1, st2, -⟩ := h.2.2.2.1
  obtain ⟨⟨len, -, ln1, ln2⟩, -⟩ := h.2.2.2.2.2
  have i5 : ∀ k, k < 6 → ii (nI k) 0 5 = 1 := fun k hk => ii_in (n := 6) hk (by decide)
  have i6 : ∀ k, 6 ≤ k → k < 2 ^ 31 → ii (nI k) 0 5 = 0 := fun j h1 h2 => ii_out (n := 6) (by decide) (fun q hq e => by
    have := (nI_eq h2 (by omega)).mp e
    omega)
  rcases ii_cases (v := x) (n := 11) (by decide) with ⟨k, k1, rfl, -⟩ | ⟨k3, -⟩
  · have : k = 0 ∨ k = 1 ∨ k = 2 ∨ k = 3 ∨ k = 4 ∨ k = 5 ∨ k = 6 ∨ k = 7 ∨ k = 8 ∨ k = 9 ∨ k = 10 := by omega
    rcases this with rfl | rfl | rfl | rfl | rfl | rfl | rfl | rfl | rfl | rfl | rfl
    · have e5 := i5 0 (by decide)
      rw [show nI 0 = 0 from rfl] at e5 ⊢
      refine both_q h (v := (g.1 0).1 0) (fun Q => ?_) (fun Q => ?_)
      · simp only [↓en91, ↓u91_0, ↓u91_1_c0, ↓u91_1_c1, ↓u91_1_c2, ↓u91_1_c3, ↓u91_1_c4, ↓u91_1_c5, ↓u91_1_c6, ↓u91_1_c7, ↓u91_1_c8, ↓u91_1_c9, ↓u91_1_c10, ↓u91_60, ↓u91_68, ↓u91_76, ↓u91_84, ↓u91_92, ↓u91_100, ↓u91_108, ↓u91_116, ↓u91_124, ↓u91_132, ↓u91_137, ↓u91_145, ↓u91_61, ↓u91_69, ↓u91_77, ↓u91_85, ↓u91_93, ↓u91_101, ↓u91_109, ↓u91_117, ↓u91_125, ↓u91_133, ↓u91_138, ↓u91_147, ↓u91_64, ↓u91_72, ↓u91_80, ↓u91_88, ↓u91_96, ↓u91_104, ↓u91_112, ↓u91_120, ↓u91_128, ↓u91_136, ↓u91_141, ↓u91_67, ↓u91_75, ↓u91_83, ↓u91_91, ↓u91_99, ↓u91_107, ↓u91_115, ↓u91_123, ↓u91_131, ↓u91_144, ↓nf0, ↓s_o z7, ↓c_v_some, ↓sf0 z7]
      · simp only [↓en177, ↓u177_0, ↓u177_1, ↓u177_2, ↓u177_3, ↓u177_6, ↓u177_16, ↓u177_9, ↓u177_17_c0, ↓u177_17_c1, ↓u177_17_c2, ↓u177_17_c3, ↓u177_17_c4, ↓u177_10, ↓u177_52, ↓u177_57, ↓u177_67, ↓u177_75, ↓u177_80, ↓u177_85, ↓u177_13, ↓u177_53, ↓u177_58, ↓u177_68, ↓u177_76, ↓u177_81, ↓u177_87, ↓u177_14, ↓u177_56, ↓u177_61, ↓u177_71, ↓u177_79, ↓u177_84, ↓u177_15, ↓u177_62, ↓u177_74, ↓u177_65, ↓u177_66, ↓d_o, ↓m_isIn, ↓c_v_some, e5, n10, n00, if_false, if_true, ↓df0, ↓dI0, hM, r0, m0, mdl_n (show 0 < 6 by decide)]
    · have e5 := i5 1 (by decide)
      rw [show nI 1 = 1 from rfl] at e5 ⊢
      refine both_q h (v := (g.1 0).1 1) (fun Q => ?_) (fun Q => ?_)
      · simp only [↓en91, ↓u91_0, ↓u91_1_c0, ↓u91_1_c1, ↓u91_1_c2, ↓u91_1_c3, ↓u91_1_c4, ↓u91_1_c5, ↓u91_1_c6, ↓u91_1_c7, ↓u91_1_c8, ↓u91_1_c9, ↓u91_1_c10, ↓u91_60, ↓u91_68, ↓u91_76, ↓u91_84, ↓u91_92, ↓u91_100, ↓u91_108, ↓u91_116, ↓u91_124, ↓u91_132, ↓u91_137, ↓u91_145, ↓u91_61, ↓u91_69, ↓u91_77, ↓u91_85, ↓u91_93, ↓u91_101, ↓u91_109, ↓u91_117, ↓u91_125, ↓u91_133, ↓u91_138, ↓u91_147, ↓u91_64, ↓u91_72, ↓u91_80, ↓u91_88, ↓u91_96, ↓u91_104, ↓u91_112, ↓u91_120, ↓u91_128, ↓u91_136, ↓u91_141, ↓u91_67, ↓u91_75, ↓u91_83, ↓u91_91, ↓u91_99, ↓u91_107, ↓u91_115, ↓u91_123, ↓u91_131, ↓u91_144, ↓nf0, ↓s_o z7, ↓c_v_some, ↓sf1 z7]
      · simp only [↓en177, ↓u177_0, ↓u177_1, ↓u177_2, ↓u177_3, ↓u177_6, ↓u177_16, ↓u177_9, ↓u177_17_c0, ↓u177_17_c1, ↓u177_17_c2, ↓u177_17_c3, ↓u177_17_c4, ↓u177_10, ↓u177_52, ↓u177_57, ↓u177_67, ↓u177_75, ↓u177_80, ↓u177_85, ↓u177_13, ↓u177_53, ↓u177_58, ↓u177_68, ↓u177_76, ↓u177_81, ↓u177_87, ↓u177_14, ↓u177_56, ↓u177_61, ↓u177_71, ↓u177_79, ↓u177_84, ↓u177_15, ↓u177_62, ↓u177_74, ↓u177_65, ↓u177_66, ↓d_o, ↓m_isIn, ↓c_v_some, e5, n10, n00, if_false, if_true, ↓df0, ↓dI0, hM, r1, m1, mdl_n (show 1 < 6 by decide)]
    · have e5 := i5 2 (by decide)
      rw [show nI 2 = 2 from rfl] at e5 ⊢
      refine both_q h (v := (g.1 0).1 2) (fun Q => ?_) (fun Q => ?_)
      · simp only [↓en91, ↓u91_0, ↓u91_1_c0, ↓u91_1_c1, ↓u91_1_c2, ↓u91_1_c3, ↓u91_1_c4, ↓u91_1_c5, ↓u91_1_c6, ↓u91_1_c7, ↓u91_1_c8, ↓u91_1_c9, ↓u91_1_c10, ↓u91_60, ↓u91_68, ↓u91_76, ↓u91_84, ↓u91_92, ↓u91_100, ↓u91_108, ↓u91_116, ↓u91_124, ↓u91_132, ↓u91_137, ↓u91_145, ↓u91_61, ↓u91_69, ↓u91_77, ↓u91_85, ↓u91_93, ↓u91_101, ↓u91_109, ↓u91_117, ↓u91_125, ↓u91_133, ↓u91_138, ↓u91_147, ↓u91_64, ↓u91_72, ↓u91_80, ↓u91_88, ↓u91_96, ↓u91_104, ↓u91_112, ↓u91_120, ↓u91_128, ↓u91_136, ↓u91_141, ↓u91_67, ↓u91_75, ↓u91_83, ↓u91_91, ↓u91_99, ↓u91_107, ↓u91_115, ↓u91_123, ↓u91_131, ↓u91_144, ↓nf0, ↓s_o z7, ↓c_v_some, ↓sf2 z7]
      · simp only [↓en177, ↓u177_0, ↓u177_1, ↓u177_2, ↓u177_3, ↓u177_6, ↓u177_16, ↓u177_9, ↓u177_17_c0, ↓u177_17_c1, ↓u177_17_c2, ↓u177_17_c3, ↓u177_17_c4, ↓u177_10, ↓u177_52, ↓u177_57, ↓u177_67, ↓u177_75, ↓u177_80, ↓u177_85, ↓u177_13, ↓u177_53, ↓u177_58, ↓u177_68, ↓u177_76, ↓u177_81, ↓u177_87, ↓u177_14, ↓u177_56, ↓u177_61, ↓u177_71, ↓u177_79, ↓u177_84, ↓u177_15, ↓u177_62, ↓u177_74, ↓u177_65, ↓u177_66, ↓d_o, ↓m_isIn, ↓c_v_some, e5, n10, n00, if_false, if_true, ↓df0, ↓dI0, hM, r2, m2, mdl_n (show 2 < 6 by decide)]
    · have e5 := i5 3 (by decide)
      rw [show nI 3 = 3 from rfl] at e5 ⊢
      refine both_q h (v := (g.1 0).1 3) (fun Q => ?_) (fun Q => ?_)
      · simp only [↓en91, ↓u91_0, ↓u91_1_c0, ↓u91_1_c1, ↓u91_1_c2, ↓u91_1_c3, ↓u91_1_c4, ↓u91_1_c5, ↓u91_1_c6, ↓u91_1_c7, ↓u91_1_c8, ↓u91_1_c9, ↓u91_1_c10, ↓u91_60, ↓u91_68, ↓u91_76, ↓u91_84, ↓u91_92, ↓u91_100, ↓u91_108, ↓u91_116, ↓u91_124, ↓u91_132, ↓u91_137, ↓u91_145, ↓u91_61, ↓u91_69, ↓u91_77, ↓u91_85, ↓u91_93, ↓u91_101, ↓u91_109, ↓u91_117, ↓u91_125, ↓u91_133, ↓u91_138, ↓u91_147, ↓u91_64, ↓u91_72, ↓u91_80, ↓u91_88, ↓u91_96, ↓u91_104, ↓u91_112, ↓u91_120, ↓u91_128, ↓u91_136, ↓u91_141, ↓u91_67, ↓u91_75, ↓u91_83, ↓u91_91, ↓u91_99, ↓u91_107, ↓u91_115, ↓u91_123, ↓u91_131, ↓u91_144, ↓nf0, ↓s_o z7, ↓c_v_some, ↓sf3 z7]
      · simp only [↓en177, ↓u177_0, ↓u177_1, ↓u177_2, ↓u177_3, ↓u177_6, ↓u177_16, ↓u177_9, ↓u177_17_c0, ↓u177_17_c1, ↓u177_17_c2, ↓u177_17_c3, ↓u177_17_c4, ↓u177_10, ↓u177_52, ↓u177_57, ↓u177_67, ↓u177_75, ↓u177_80, ↓u177_85, ↓u177_13, ↓u177_53, ↓u177_58, ↓u177_68, ↓u177_76, ↓u177_81, ↓u177_87, ↓u177_14, ↓u177_56, ↓u177_61, ↓u177_71, ↓u177_79, ↓u177_84, ↓u177_15, ↓u177_62, ↓u177_74, ↓u177_65, ↓u177_66, ↓d_o, ↓m_isIn, ↓c_v_some, e5, n10, n00, if_false, if_true, ↓df0, ↓dI0, hM, r3, m3, mdl_n (show 3 < 6 by decide)]
    · have e5 := i5 4 (by decide)
      rw [show nI 4 = 4 from rfl] at e5 ⊢
      refine both_q h (v := (g.1 0).1 4) (fun Q => ?_) (fun Q => ?_)
      · simp only [↓en91, ↓u91_0, ↓u91_1_c0, ↓u91_1_c1, ↓u91_1_c2, ↓u91_1_c3, ↓u91_1_c4, ↓u91_1_c5, ↓u91_1_c6, ↓u91_1_c7, ↓u91_1_c8, ↓u91_1_c9, ↓u91_1_c10, ↓u91_60, ↓u91_68, ↓u91_76, ↓u91_84, ↓u91_92, ↓u91_100, ↓u91_108, ↓u91_116, ↓u91_124, ↓u91_132, ↓u91_137, ↓u91_145, ↓u91_61, ↓u91_69, ↓u91_77, ↓u91_85, ↓u91_93, ↓u91_101, ↓u91_109, ↓u91_117, ↓u91_125, ↓u91_133, ↓u91_138, ↓u91_147, ↓u91_64, ↓u91_72, ↓u91_80, ↓u91_88, ↓u91_96, ↓u91_104, ↓u91_112, ↓u91_120, ↓u91_128, ↓u91_136, ↓u91_141, ↓u91_67, ↓u91_75, ↓u91_83, ↓u91_91, ↓u91_99, ↓u91_107, ↓u91_115, ↓u91_123, ↓u91_131, ↓u91_144, ↓nf0, ↓s_o z7, ↓c_v_some, ↓sf4 z7]
      · simp only [↓en177, ↓u177_0, ↓u177_1, ↓u177_2, ↓u177_3, ↓u177_6, ↓u177_16, ↓u177_9, ↓u177_17_c0, ↓u177_17_c1, ↓u177_17_c2, ↓u177_17_c3, ↓u177_17_c4, ↓u177_10, ↓u177_52, ↓u177_57, ↓u177_67, ↓u177_75, ↓u177_80, ↓u177_85, ↓u177_13, ↓u177_53, ↓u177_58, ↓u177_68, ↓u177_76, ↓u177_81, ↓u177_87, ↓u177_14, ↓u177_56, ↓u177_61, ↓u177_71, ↓u177_79, ↓u177_84, ↓u177_15, ↓u177_62, ↓u177_74, ↓u177_65, ↓u177_66, ↓d_o, ↓m_isIn, ↓c_v_some, e5, n10, n00, if_false, if_true, ↓df0, ↓dI0, hM, r4, m4, mdl_n (show 4 < 6 by decide)]
    · have e5 := i5 5 (by decide)
      rw [show nI 5 = 5 from rfl] at e5 ⊢
      refine both_q h (v := (g.1 0).1 5) (fun Q => ?_) (fun Q => ?_)
      · simp only [↓en91, ↓u91_0, ↓u91_1_c0, ↓u91_1_c1, ↓u91_1_c2, ↓u91_1_c3, ↓u91_1_c4, ↓u91_1_c5, ↓u91_1_c6, ↓u91_1_c7, ↓u91_1_c8, ↓u91_1_c9, ↓u91_1_c10, ↓u91_60, ↓u91_68, ↓u91_76, ↓u91_84, ↓u91_92, ↓u91_100, ↓u91_108, ↓u91_116, ↓u91_124, ↓u91_132, ↓u91_137, ↓u91_145, ↓u91_61, ↓u91_69, ↓u91_77, ↓u91_85, ↓u91_93, ↓u91_101, ↓u91_109, ↓u91_117, ↓u91_125, ↓u91_133, ↓u91_138, ↓u91_147, ↓u91_64, ↓u91_72, ↓u91_80, ↓u91_88, ↓u91_96, ↓u91_104, ↓u91_112, ↓u91_120, ↓u91_128, ↓u91_136, ↓u91_141, ↓u91_67, ↓u91_75, ↓u91_83, ↓u91_91, ↓u91_99, ↓u91_107, ↓u91_115, ↓u91_123, ↓u91_131, ↓u91_144, ↓nf0, ↓s_o z7, ↓c_v_some, ↓sf5 z7]
      · simp only [↓en177, ↓u177_0, ↓u177_1, ↓u177_2, ↓u177_3, ↓u177_6, ↓u177_16, ↓u177_9, ↓u177_17_c0, ↓u177_17_c1, ↓u177_17_c2, ↓u177_17_c3, ↓u177_17_c4, ↓u177_10, ↓u177_52, ↓u177_57, ↓u177_67, ↓u177_75, ↓u177_80, ↓u177_85, ↓u177_13, ↓u177_53, ↓u177_58, ↓u177_68, ↓u177_76, ↓u177_81, ↓u177_87, ↓u177_14, ↓u177_56, ↓u177_61, ↓u177_71, ↓u177_79, ↓u177_84, ↓u177_15, ↓u177_62, ↓u177_74, ↓u177_65, ↓u177_66, ↓d_o, ↓m_isIn, ↓c_v_some, e5, n10, n00, if_false, if_true, ↓df0, ↓dI0, hM, r5, m5, mdl_n (show 5 < 6 by decide)]
    · have e5 := i6 6 (by decide) (by decide)
      rw [show nI 6 = 6 from rfl] at e5 ⊢
      refine both_q h (v := nI (sm (plc (g.1 0)) (nC (g.1 0)))) (fun Q => ?_) (fun Q => ?_)
      · simp only [↓en91, ↓u91_0, ↓u91_1_c0, ↓u91_1_c1, ↓u91_1_c2, ↓u91_1_c3, ↓u91_1_c4, ↓u91_1_c5, ↓u91_1_c6, ↓u91_1_c7, ↓u91_1_c8, ↓u91_1_c9, ↓u91_1_c10, ↓u91_60, ↓u91_68, ↓u91_76, ↓u91_84, ↓u91_92, ↓u91_100, ↓u91_108, ↓u91_116, ↓u91_124, ↓u91_132, ↓u91_137, ↓u91_145, ↓u91_61, ↓u91_69, ↓u91_77, ↓u91_85, ↓u91_93, ↓u91_101, ↓u91_109, ↓u91_117, ↓u91_125, ↓u91_133, ↓u91_138, ↓u91_147, ↓u91_64, ↓u91_72, ↓u91_80, ↓u91_88, ↓u91_96, ↓u91_104, ↓u91_112, ↓u91_120, ↓u91_128, ↓u91_136, ↓u91_141, ↓u91_67, ↓u91_75, ↓u91_83, ↓u91_91, ↓u91_99, ↓u91_107, ↓u91_115, ↓u91_123, ↓u91_131, ↓u91_144, ↓nf0, ↓s_o z7, ↓c_v_some, ↓s_allPlaced z7, plcAll_eq hI]
      · simp only [↓en177, ↓u177_0, ↓u177_1, ↓u177_2, ↓u177_3, ↓u177_6, ↓u177_16, ↓u177_9, ↓u177_17_c0, ↓u177_17_c1, ↓u177_17_c2, ↓u177_17_c3, ↓u177_17_c4, ↓u177_10, ↓u177_52, ↓u177_57, ↓u177_67, ↓u177_75, ↓u177_80, ↓u177_85, ↓u177_13, ↓u177_53, ↓u177_58, ↓u177_68, ↓u177_76, ↓u177_81, ↓u177_87, ↓u177_14, ↓u177_56, ↓u177_61, ↓u177_71, ↓u177_79, ↓u177_84, ↓u177_15, ↓u177_62, ↓u177_74, ↓u177_65, ↓u177_66, ↓d_o, ↓m_isIn, ↓c_v_some, e5, n10, n00, if_false, if_true, ↓df0, ↓dI0, hM, ↓m_placedInAll hI hM]
    · have e5 := i6 7 (by decide) (by decide)
      rw [show nI 7 = 7 from rfl] at e5 ⊢
      refine both_q h (v := smI (fun c => fact (g.1 0) c 5) (nC (g.1 0)) - nI (sm (plc (g.1 0)) (nC (g.1 0)))) (fun Q => ?_) (fun Q => ?_)
      · simp only [↓en91, ↓u91_0, ↓u91_1_c0, ↓u91_1_c1, ↓u91_1_c2, ↓u91_1_c3, ↓u91_1_c4, ↓u91_1_c5, ↓u91_1_c6, ↓u91_1_c7, ↓u91_1_c8, ↓u91_1_c9, ↓u91_1_c10, ↓u91_60, ↓u91_68, ↓u91_76, ↓u91_84, ↓u91_92, ↓u91_100, ↓u91_108, ↓u91_116, ↓u91_124, ↓u91_132, ↓u91_137, ↓u91_145, ↓u91_61, ↓u91_69, ↓u91_77, ↓u91_85, ↓u91_93, ↓u91_101, ↓u91_109, ↓u91_117, ↓u91_125, ↓u91_133, ↓u91_138, ↓u91_147, ↓u91_64, ↓u91_72, ↓u91_80, ↓u91_88, ↓u91_96, ↓u91_104, ↓u91_112, ↓u91_120, ↓u91_128, ↓u91_136, ↓u91_141, ↓u91_67, ↓u91_75, ↓u91_83, ↓u91_91, ↓u91_99, ↓u91_107, ↓u91_115, ↓u91_123, ↓u91_131, ↓u91_144, ↓nf0, ↓s_o z7, ↓c_v_some, ↓s_allMissing z7 hn, show smI (misS (g.1 0)) (nC (g.1 0)) = smI (fun c => fact (g.1 0) c 5) (nC (g.1 0)) - nI (sm (plc (g.1 0)) (nC (g.1 0))) from smI_mis]
      · simp only [↓en177, ↓u177_0, ↓u177_1, ↓u177_2, ↓u177_3, ↓u177_6, ↓u177_16, ↓u177_9, ↓u177_17_c0, ↓u177_17_c1, ↓u177_17_c2, ↓u177_17_c3, ↓u177_17_c4, ↓u177_10, ↓u177_52, ↓u177_57, ↓u177_67, ↓u177_75, ↓u177_80, ↓u177_85, ↓u177_13, ↓u177_53, ↓u177_58, ↓u177_68, ↓u177_76, ↓u177_81, ↓u177_87, ↓u177_14, ↓u177_56, ↓u177_61, ↓u177_71, ↓u177_79, ↓u177_84, ↓u177_15, ↓u177_62, ↓u177_74, ↓u177_65, ↓u177_66, ↓d_o, ↓m_isIn, ↓c_v_some, e5, n10, n00, if_false, if_true, ↓df0, ↓dI0, hM, ↓m_lessonsInAll hI hM, ↓m_placedInAll hI hM]
    · have e5 := i6 8 (by decide) (by decide)
      rw [show nI 8 = 8 from rfl] at e5 ⊢
      have h400 : ∀ Q, ev sc 122 [.ref 154, .int 400] (Wd g) Q = Q (some (.int (nI (ct (hol (g.1 0)) 400)))) (Wd g) := fun Q => m_holidays (e := 400) hM (by decide)
      refine both_q h (v := nI (ct (hol (g.1 0)) 400)) (fun Q => ?_) (fun Q => ?_)
      · simp only [↓en91, ↓u91_0, ↓u91_1_c0, ↓u91_1_c1, ↓u91_1_c2, ↓u91_1_c3, ↓u91_1_c4, ↓u91_1_c5, ↓u91_1_c6, ↓u91_1_c7, ↓u91_1_c8, ↓u91_1_c9, ↓u91_1_c10, ↓u91_60, ↓u91_68, ↓u91_76, ↓u91_84, ↓u91_92, ↓u91_100, ↓u91_108, ↓u91_116, ↓u91_124, ↓u91_132, ↓u91_137, ↓u91_145, ↓u91_61, ↓u91_69, ↓u91_77, ↓u91_85, ↓u91_93, ↓u91_101, ↓u91_109, ↓u91_117, ↓u91_125, ↓u91_133, ↓u91_138, ↓u91_147, ↓u91_64, ↓u91_72, ↓u91_80, ↓u91_88, ↓u91_96, ↓u91_104, ↓u91_112, ↓u91_120, ↓u91_128, ↓u91_136, ↓u91_141, ↓u91_67, ↓u91_75, ↓u91_83, ↓u91_91, ↓u91_99, ↓u91_107, ↓u91_115, ↓u91_123, ↓u91_131, ↓u91_144, ↓nf0, ↓s_o z7, ↓c_v_some, ↓s_allHolidays z7, holAll_eq hI]
      · simp only [↓en177, ↓u177_0, ↓u177_1, ↓u177_2, ↓u177_3, ↓u177_6, ↓u177_16, ↓u177_9, ↓u177_17_c0, ↓u177_17_c1, ↓u177_17_c2, ↓u177_17_c3, ↓u177_17_c4, ↓u177_10, ↓u177_52, ↓u177_57, ↓u177_67, ↓u177_75, ↓u177_80, ↓u177_85, ↓u177_13, ↓u177_53, ↓u177_58, ↓u177_68, ↓u177_76, ↓u177_81, ↓u177_87, ↓u177_14, ↓u177_56, ↓u177_61, ↓u177_71, ↓u177_79, ↓u177_84, ↓u177_15, ↓u177_62, ↓u177_74, ↓u177_65, ↓u177_66, ↓d_o, ↓m_isIn, ↓c_v_some, e5, n10, n00, if_false, if_true, ↓df0, ↓dI0, hM, h400]
    · have e5 := i6 9 (by decide) (by decide)
      rw [show nI 9 = 9 from rfl] at e5 ⊢
      refine both_q h (v := nI n) (fun Q => ?_) (fun Q => ?_)
      · simp only [↓en91, ↓u91_0, ↓u91_1_c0, ↓u91_1_c1, ↓u91_1_c2, ↓u91_1_c3, ↓u91_1_c4, ↓u91_1_c5, ↓u91_1_c6, ↓u91_1_c7, ↓u91_1_c8, ↓u91_1_c9, ↓u91_1_c10, ↓u91_60, ↓u91_68, ↓u91_76, ↓u91_84, ↓u91_92, ↓u91_100, ↓u91_108, ↓u91_116, ↓u91_124, ↓u91_132, ↓u91_137, ↓u91_145, ↓u91_61, ↓u91_69, ↓u91_77, ↓u91_85, ↓u91_93, ↓u91_101, ↓u91_109, ↓u91_117, ↓u91_125, ↓u91_133, ↓u91_138, ↓u91_147, ↓u91_64, ↓u91_72, ↓u91_80, ↓u91_88, ↓u91_96, ↓u91_104, ↓u91_112, ↓u91_120, ↓u91_128, ↓u91_136, ↓u91_141, ↓u91_67, ↓u91_75, ↓u91_83, ↓u91_91, ↓u91_99, ↓u91_107, ↓u91_115, ↓u91_123, ↓u91_131, ↓u91_144, ↓nf0, ↓s_o z7, ↓c_v_some, ↓mf6, st1]
      · simp only [↓en177, ↓u177_0, ↓u177_1, ↓u177_2, ↓u177_3, ↓u177_6, ↓u177_16, ↓u177_9, ↓u177_17_c0, ↓u177_17_c1, ↓u177_17_c2, ↓u177_17_c3, ↓u177_17_c4, ↓u177_10, ↓u177_52, ↓u177_57, ↓u177_67, ↓u177_75, ↓u177_80, ↓u177_85, ↓u177_13, ↓u177_53, ↓u177_58, ↓u177_68, ↓u177_76, ↓u177_81, ↓u177_87, ↓u177_14, ↓u177_56, ↓u177_61, ↓u177_71, ↓u177_79, ↓u177_84, ↓u177_15, ↓u177_62, ↓u177_74, ↓u177_65, ↓u177_66, ↓d_o, ↓m_isIn, ↓c_v_some, e5, n10, n00, if_false, if_true, ↓df0, ↓dI0, hM, ↓df2, st2]
    · have e5 := i6 10 (by decide) (by decide)
      rw [show nI 10 = 10 from rfl] at e5 ⊢
      refine both_q h (v := nI len) (fun Q => ?_) (fun Q => ?_)
      · simp only [↓en91, ↓u91_0, ↓u91_1_c0, ↓u91_1_c1, ↓u91_1_c2, ↓u91_1_c3, ↓u91_1_c4, ↓u91_1_c5, ↓u91_1_c6, ↓u91_1_c7, ↓u91_1_c8, ↓u91_1_c9, ↓u91_1_c10, ↓u91_60, ↓u91_68, ↓u91_76, ↓u91_84, ↓u91_92, ↓u91_100, ↓u91_108, ↓u91_116, ↓u91_124, ↓u91_132, ↓u91_137, ↓u91_145, ↓u91_61, ↓u91_69, ↓u91_77, ↓u91_85, ↓u91_93, ↓u91_101, ↓u91_109, ↓u91_117, ↓u91_125, ↓u91_133, ↓u91_138, ↓u91_147, ↓u91_64, ↓u91_72, ↓u91_80, ↓u91_88, ↓u91_96, ↓u91_104, ↓u91_112, ↓u91_120, ↓u91_128, ↓u91_136, ↓u91_141, ↓u91_67, ↓u91_75, ↓u91_83, ↓u91_91, ↓u91_99, ↓u91_107, ↓u91_115, ↓u91_123, ↓u91_131, ↓u91_144, ↓nf0, ↓s_o z7, ↓c_v_some, ↓mf7, ↓xf0, ln1]
      · simp only [↓en177, ↓u177_0, ↓u177_1, ↓u177_2, ↓u177_3, ↓u177_6, ↓u177_16, ↓u177_9, ↓u177_17_c0, ↓u177_17_c1, ↓u177_17_c2, ↓u177_17_c3, ↓u177_17_c4, ↓u177_10, ↓u177_52, ↓u177_57, ↓u177_67, ↓u177_75, ↓u177_80, ↓u177_85, ↓u177_13, ↓u177_53, ↓u177_58, ↓u177_68, ↓u177_76, ↓u177_81, ↓u177_87, ↓u177_14, ↓u177_56, ↓u177_61, ↓u177_71, ↓u177_79, ↓u177_84, ↓u177_15, ↓u177_62, ↓u177_74, ↓u177_65, ↓u177_66, ↓d_o, ↓m_isIn, ↓c_v_some, e5, n10, n00, if_false, if_true, ↓df0, ↓dI0, hM, ↓df5, ln2]
  · have hb := big (x := x) (N := 11) (by decide) k3
    have hb1 : x.toInt < 0 ∨ 10 < x.toInt := by omega
    have hb2 : x.toInt < 6 ∨ 10 < x.toInt := by omega
    have e5 : ii x 0 5 = 0 := ii_out (n := 6) (by decide) (fun k hk => k3 k (by omega))
    refine both_q h (v := -2) (fun Q => ?_) (fun Q => ?_)
    · simp only [↓en91, ↓u91_0, ↓u91_1_c0, ↓u91_1_c1, ↓u91_1_c2, ↓u91_1_c3, ↓u91_1_c4, ↓u91_1_c5, ↓u91_1_c6, ↓u91_1_c7, ↓u91_1_c8, ↓u91_1_c9, ↓u91_1_c10, ↓u91_60, ↓u91_68, ↓u91_76, ↓u91_84, ↓u91_92, ↓u91_100, ↓u91_108, ↓u91_116, ↓u91_124, ↓u91_132, ↓u91_137, ↓u91_145, ↓u91_61, ↓u91_69, ↓u91_77, ↓u91_85, ↓u91_93, ↓u91_101, ↓u91_109, ↓u91_117, ↓u91_125, ↓u91_133, ↓u91_138, ↓u91_147, ↓u91_64, ↓u91_72, ↓u91_80, ↓u91_88, ↓u91_96, ↓u91_104, ↓u91_112, ↓u91_120, ↓u91_128, ↓u91_136, ↓u91_141, ↓u91_67, ↓u91_75, ↓u91_83, ↓u91_91, ↓u91_99, ↓u91_107, ↓u91_115, ↓u91_123, ↓u91_131, ↓u91_144, ↓nf0, ↓s_o z7, ↓c_v_some, ↓u91_1_d hb1]
    · simp only [↓en177, ↓u177_0, ↓u177_1, ↓u177_2, ↓u177_3, ↓u177_6, ↓u177_16, ↓u177_9, ↓u177_17_c0, ↓u177_17_c1, ↓u177_17_c2, ↓u177_17_c3, ↓u177_17_c4, ↓u177_10, ↓u177_52, ↓u177_57, ↓u177_67, ↓u177_75, ↓u177_80, ↓u177_85, ↓u177_13, ↓u177_53, ↓u177_58, ↓u177_68, ↓u177_76, ↓u177_81, ↓u177_87, ↓u177_14, ↓u177_56, ↓u177_61, ↓u177_71, ↓u177_79, ↓u177_84, ↓u177_15, ↓u177_62, ↓u177_74, ↓u177_65, ↓u177_66, ↓d_o, ↓m_isIn, ↓c_v_some, e5, n10, n00, if_false, if_true, ↓df0, ↓dI0, hM, ↓u177_17_d hb2]
end
