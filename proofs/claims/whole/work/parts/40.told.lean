/-! THE TWO AGREE: what is told -/
section
variable {sc : Nat × (Nat → Int32)} {g : SG} {Q : Option Value → ri_W → Prop}
theorem z7 : (0 : Nat) < 7 := by decide
theorem both_q (h : R g) {y1 y2 : Nat} {as : List Value} {v : Int32} (h1 : ∀ Q, ev sc y1 (.ref 0 :: as) (Wd g) Q = Q (some (.int v)) (Wd g)) (h2 : ∀ Q, ev sc y2 (.ref 154 :: as) (Wd g) Q = Q (some (.int v)) (Wd g)) : both sc y1 y2 as g := ⟨v, g, g, h1, h2, h⟩
theorem c_isDate {w : ri_W} {v : Int32} : ev sc 93 [.int v] w Q = Q (some (.int (ii v 0 399))) w := by
  simp only [↓en93, ↓u93_0, ↓u93_1, ↓u93_2, ↓u93_5, ↓u93_8, ↓s_isIn, ↓c_v_some, cb_ii]
theorem c_knowsGroup {v : Int32} : ev sc 94 [.ref 0, .int v] (Wd g) Q = Q (some (.int (ii v 0 ((g.1 0).1 2 - 1)))) (Wd g) := by
  simp only [↓en94, ↓u94_0, ↓u94_1, ↓u94_2, ↓u94_3, ↓u94_6, ↓u94_9, ↓u94_10, ↓u94_11, ↓u94_14, ↓nf0, ↓sf2 z7, ↓s_isIn, ↓c_v_some, cb_ii]
theorem c_knowsTeacher {v : Int32} : ev sc 95 [.ref 0, .int v] (Wd g) Q = Q (some (.int (ii v 0 ((g.1 0).1 3 - 1)))) (Wd g) := by
  simp only [↓en95, ↓u95_0, ↓u95_1, ↓u95_2, ↓u95_3, ↓u95_6, ↓u95_9, ↓u95_10, ↓u95_11, ↓u95_14, ↓nf0, ↓sf3 z7, ↓s_isIn, ↓c_v_some, cb_ii]
theorem c_knowsCourse {v : Int32} : ev sc 96 [.ref 0, .int v] (Wd g) Q = Q (some (.int (ii v 0 ((g.1 0).1 5 - 1)))) (Wd g) := by
  simp only [↓en96, ↓u96_0, ↓u96_1, ↓u96_4, ↓u96_5, ↓u96_8, ↓nf0, ↓s_o z7, ↓s_knowsCourse z7, ↓c_v_some, cb_ii]
theorem o_reason (h : R g) {v m r : Int32} : both sc 80 142 [.int v, .int m, .int r] g := by
  have hI := h.2.1
  have hM := h.2.2.1
  refine both_q h (v := reasonV (g.1 0) v m r) (fun Q => ?_) (fun Q => m_reason hI hM)
  have hsl := sl_eq hI
  have h48 := (sl48 hI).1
  have hRn := hI.2.1.2.2.2.2.1
  have hCn := hI.2.1.2.2.2.2.2
  simp only [↓en80, ↓u80_0, ↓u80_1, ↓u80_2, ↓u80_5, ↓u80_30, ↓u80_8, ↓u80_31, ↓u80_9, ↓u80_12, ↓u80_13, ↓u80_16, ↓u80_19, ↓u80_20, ↓u80_23, ↓u80_24, ↓u80_27, ↓u80_32, ↓u80_33, ↓u80_36, ↓u80_37, ↓u80_38, ↓u80_39, ↓u80_42, ↓m_o, ↓nf0, ↓s_o z7, ↓c_knowsCourse, ↓s_knowsSlot z7, ↓s_knowsRoom z7, ↓c_v_some]
  unfold reasonV
  rw [hsl, hRn.1, hCn.1]
  rcases ii_cases (v := v) (n := nC (g.1 0)) (by omega) with ⟨c, c1, rfl, c2⟩ | ⟨-, c2⟩
  · rcases ii_cases (v := m) (n := slS (g.1 0)) (by omega) with ⟨q, q1, rfl, q2⟩ | ⟨-, q2⟩
    · rcases ii_cases (v := r) (n := nR (g.1 0)) (by omega) with ⟨o, o1, rfl, o2⟩ | ⟨-, o2⟩
      · simp only [↓u80_0, ↓u80_1, ↓u80_2, ↓u80_5, ↓u80_30, ↓u80_8, ↓u80_31, ↓u80_9, ↓u80_12, ↓u80_13, ↓u80_16, ↓u80_19, ↓u80_20, ↓u80_23, ↓u80_24, ↓u80_27, ↓u80_32, ↓u80_33, ↓u80_36, ↓u80_37, ↓u80_38, ↓u80_39, ↓u80_42, c2, q2, o2, n10, if_false, ↓m_o, ↓nf0, ↓s_o z7, ↓s_firstReason z7 hI.2.1 hI.2.2.1 c1 q1 (show o < 6 by omega), ↓c_v_some, nI_clamp (show c < 2 ^ 31 by omega), nI_clamp (show q < 2 ^ 31 by omega), nI_clamp (show o < 2 ^ 31 by omega)]
      · simp only [c2, q2, o2, n10, n00, if_false, if_true]
    · simp only [c2, q2, n10, n00, if_false, if_true]
  · simp only [c2, n00, if_true]
theorem nd {x : Int32} {k : Nat} (hk : k < 2 ^ 31) (h : x ≠ nI k) : ¬ ((k : Int) = x.toInt) := fun e => h (Int32.toInt_inj.mp (by rw [nI_toInt hk, e]))
theorem o_course (h : R g) {v x : Int32} : both sc 81 161 [.int v, .int x] g := by
  have hI := h.2.1
  have hM := h.2.2.1
  have hCn := hI.2.1.2.2.2.2.2
  rcases ii_cases (v := v) (n := nC (g.1 0)) (by omega) with ⟨c, c1, rfl, c2⟩ | ⟨-, c2⟩
  · have hc20 : c < 20 := by omega
    rcases ii_cases (v := x) (n := 8) (by omega) with ⟨k, k1, rfl, k2⟩ | ⟨k3, k2⟩
    · rw [show nI 8 - 1 = 7 by decide] at k2
      by_cases k6 : k < 6
      · have k5 : ii (nI k) 0 5 = 1 := ii_in (n := 6) k6 (by decide)
        have k7 : nI k < 6 := nI_lt (b := 6) k6 (by decide)
        refine both_q h (v := fact (g.1 0) c k) (fun Q => ?_) (fun Q => ?_)
        · simp only [↓en81, ↓u81_0, ↓u81_1, ↓u81_2, ↓u81_5, ↓u81_10, ↓u81_8, ↓u81_11, ↓u81_9, ↓u81_12, ↓u81_13, ↓u81_16, ↓u81_29, ↓u81_19, ↓u81_30_c0, ↓u81_30_c1, ↓u81_20, ↓u81_56, ↓u81_65, ↓u81_74, ↓u81_23, ↓u81_57, ↓u81_66, ↓u81_76, ↓u81_24, ↓u81_60, ↓u81_69, ↓u81_25, ↓u81_61, ↓u81_70, ↓u81_28, ↓u81_64, ↓u81_73, ↓m_o, ↓nf0, ↓s_o z7, ↓c_knowsCourse, ↓s_isIn, ↓c_v_some, hCn.1, c2, k5, n10, if_false, ↓s_fact z7 hc20 k6]
        · have k8 : ¬ (6 : Int32) ≤ nI k := Int32.not_le.mpr k7
          simp only [↓en161, ↓u161_0, ↓u161_1, ↓u161_2, ↓u161_5, ↓u161_10, ↓u161_8, ↓u161_11, ↓u161_9, ↓u161_12, ↓u161_14, ↓u161_17, ↓u161_23, ↓u161_20, ↓u161_24, ↓u161_22, ↓u161_26, ↓u161_36, ↓u161_29, ↓u161_37, ↓u161_30, ↓u161_39, ↓u161_31, ↓u161_50, ↓u161_42, ↓u161_32, ↓u161_51, ↓u161_43, ↓u161_35, ↓u161_52, ↓u161_44, ↓u161_55, ↓u161_47, ↓d_o, ↓m_isCourse hM, ↓m_isIn, ↓c_v_some, hCn.1, c2, k2, k7, k8, n10, if_true, if_false, ↓m_of hM hc20 k6]
      · have k9 : k = 6 ∨ k = 7 := by omega
        have k5 : ∀ j, 6 ≤ j → j < 2 ^ 31 → ii (nI j) 0 5 = 0 := fun j h1 h2 => ii_out (n := 6) (by decide) (fun q hq e => by
          have := (nI_eq h2 (by omega)).mp e
          omega)
        rcases k9 with rfl | rfl
        · have e6 : nI 6 = 6 := rfl
          have e7 := k5 6 (by decide) (by decide)
          rw [e6] at k2 e7 ⊢
          refine both_q h (v := nI (plc (g.1 0) c)) (fun Q => ?_) (fun Q => ?_)
          · simp only [↓en81, ↓u81_0, ↓u81_1, ↓u81_2, ↓u81_5, ↓u81_10, ↓u81_8, ↓u81_11, ↓u81_9, ↓u81_12, ↓u81_13, ↓u81_16, ↓u81_29, ↓u81_19, ↓u81_30_c0, ↓u81_30_c1, ↓u81_20, ↓u81_56, ↓u81_65, ↓u81_74, ↓u81_23, ↓u81_57, ↓u81_66, ↓u81_76, ↓u81_24, ↓u81_60, ↓u81_69, ↓u81_25, ↓u81_61, ↓u81_70, ↓u81_28, ↓u81_64, ↓u81_73, ↓m_o, ↓nf0, ↓s_o z7, ↓c_knowsCourse, ↓s_isIn, ↓c_v_some, hCn.1, c2, e7, n10, n00, if_true, if_false, ↓s_placed z7 hc20]
          · simp only [↓en161, ↓u161_0, ↓u161_1, ↓u161_2, ↓u161_5, ↓u161_10, ↓u161_8, ↓u161_11, ↓u161_9, ↓u161_12, ↓u161_14, ↓u161_17, ↓u161_23, ↓u161_20, ↓u161_24, ↓u161_22, ↓u161_26, ↓u161_36, ↓u161_29, ↓u161_37, ↓u161_30, ↓u161_39, ↓u161_31, ↓u161_50, ↓u161_42, ↓u161_32, ↓u161_51, ↓u161_43, ↓u161_35, ↓u161_52, ↓u161_44, ↓u161_55, ↓u161_47, ↓d_o, ↓m_isCourse hM, ↓m_isIn, ↓c_v_some, hCn.1, c2, k2, n10, if_true, if_false, ↓m_placed hI hM hc20, show ((6 : Int32) < 6) = False by decide, show ((6 : Int32) ≤ 6) = True by decide, show ((6 : Int32) = 6) = True by decide]
        · have e6 : nI 7 = 7 := rfl
          have e7 := k5 7 (by decide) (by decide)
          rw [e6] at k2 e7 ⊢
          refine both_q h (v := nI (sm (freeS (g.1 0) c) (slS (g.1 0)))) (fun Q => ?_) (fun Q => ?_)
          · simp only [↓en81, ↓u81_0, ↓u81_1, ↓u81_2, ↓u81_5, ↓u81_10, ↓u81_8, ↓u81_11, ↓u81_9, ↓u81_12, ↓u81_13, ↓u81_16, ↓u81_29, ↓u81_19, ↓u81_30_c0, ↓u81_30_c1, ↓u81_20, ↓u81_56, ↓u81_65, ↓u81_74, ↓u81_23, ↓u81_57, ↓u81_66, ↓u81_76, ↓u81_24, ↓u81_60, ↓u81_69, ↓u81_25, ↓u81_61, ↓u81_70, ↓u81_28, ↓u81_64, ↓u81_73, ↓m_o, ↓nf0, ↓s_o z7, ↓c_knowsCourse, ↓s_isIn, ↓c_v_some, hCn.1, c2, e7, n10, n00, if_true, if_false, ↓s_freePlaces z7 hI.2.1 hI.2.2.1 c1]
          · simp only [↓en161, ↓u161_0, ↓u161_1, ↓u161_2, ↓u161_5, ↓u161_10, ↓u161_8, ↓u161_11, ↓u161_9, ↓u161_12, ↓u161_14, ↓u161_17, ↓u161_23, ↓u161_20, ↓u161_24, ↓u161_22, ↓u161_26, ↓u161_36, ↓u161_29, ↓u161_37, ↓u161_30, ↓u161_39, ↓u161_31, ↓u161_50, ↓u161_42, ↓u161_32, ↓u161_51, ↓u161_43, ↓u161_35, ↓u161_52, ↓u161_44, ↓u161_55, ↓u161_47, ↓d_o, ↓m_isCourse hM, ↓m_isIn, ↓c_v_some, hCn.1, c2, k2, n10, if_true, if_false, ↓m_placesFor hI hM c1, show ((7 : Int32) < 6) = False by decide, show ((6 : Int32) ≤ 7) = True by decide, show ((7 : Int32) = 6) = False by decide]
    · rw [show nI 8 - 1 = 7 by decide] at k2
      have k5 : ii x 0 5 = 0 := ii_out (n := 6) (by decide) (fun k hk => k3 k (by omega))
      have d6 := nd (x := x) (k := 6) (by decide) (k3 6 (by decide))
      have d7 := nd (x := x) (k := 7) (by decide) (k3 7 (by decide))
      refine both_q h (v := -2) (fun Q => ?_) (fun Q => ?_)
      · simp only [↓en81, ↓u81_0, ↓u81_1, ↓u81_2, ↓u81_5, ↓u81_10, ↓u81_8, ↓u81_11, ↓u81_9, ↓u81_12, ↓u81_13, ↓u81_16, ↓u81_29, ↓u81_19, ↓u81_30_c0, ↓u81_30_c1, ↓u81_20, ↓u81_56, ↓u81_65, ↓u81_74, ↓u81_23, ↓u81_57, ↓u81_66, ↓u81_76, ↓u81_24, ↓u81_60, ↓u81_69, ↓u81_25, ↓u81_61, ↓u81_70, ↓u81_28, ↓u81_64, ↓u81_73, ↓u81_30_d ⟨d6, d7⟩, ↓m_o, ↓nf0, ↓s_o z7, ↓c_knowsCourse, ↓s_isIn, ↓c_v_some, hCn.1, c2, k5, n10, n00, if_true, if_false]
      · simp only [↓en161, ↓u161_0, ↓u161_1, ↓u161_2, ↓u161_5, ↓u161_10, ↓u161_8, ↓u161_11, ↓u161_9, ↓u161_12, ↓u161_14, ↓u161_17, ↓u161_23, ↓u161_20, ↓u161_24, ↓u161_22, ↓u161_26, ↓u161_36, ↓u161_29, ↓u161_37, ↓u161_30, ↓u161_39, ↓u161_31, ↓u161_50, ↓u161_42, ↓u161_32, ↓u161_51, ↓u161_43, ↓u161_35, ↓u161_52, ↓u161_44, ↓u161_55, ↓u161_47, ↓d_o, ↓m_isCourse hM, ↓m_isIn, ↓c_v_some, hCn.1, c2, k2, n10, n00, if_true, if_false]
  · refine both_q h (v := -1) (fun Q => ?_) (fun Q => ?_)
    · simp only [↓en81, ↓u81_0, ↓u81_1, ↓u81_2, ↓u81_5, ↓u81_10, ↓u81_8, ↓u81_11, ↓u81_9, ↓u81_12, ↓u81_13, ↓u81_16, ↓u81_29, ↓u81_19, ↓u81_30_c0, ↓u81_30_c1, ↓u81_20, ↓u81_56, ↓u81_65, ↓u81_74, ↓u81_23, ↓u81_57, ↓u81_66, ↓u81_76, ↓u81_24, ↓u81_60, ↓u81_69, ↓u81_25, ↓u81_61, ↓u81_70, ↓u81_28, ↓u81_64, ↓u81_73, ↓m_o, ↓c_knowsCourse, ↓c_v_some, hCn.1, c2, n00, if_true]
    · simp only [↓en161, ↓u161_0, ↓u161_1, ↓u161_2, ↓u161_5, ↓u161_10, ↓u161_8, ↓u161_11, ↓u161_9, ↓u161_12, ↓u161_14, ↓u161_17, ↓u161_23, ↓u161_20, ↓u161_24, ↓u161_22, ↓u161_26, ↓u161_36, ↓u161_29, ↓u161_37, ↓u161_30, ↓u161_39, ↓u161_31, ↓u161_50, ↓u161_42, ↓u161_32, ↓u161_51, ↓u161_43, ↓u161_35, ↓u161_52, ↓u161_44, ↓u161_55, ↓u161_47, ↓d_o, ↓m_isCourse hM, ↓c_v_some, hCn.1, c2, n00, if_true]
end
