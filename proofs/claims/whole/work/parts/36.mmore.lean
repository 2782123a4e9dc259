/-! THE PLAIN FORM: more that is told -/
section
variable {sc : Nat × (Nat → Int32)} {g : SG} {s : SV} {Q : Option Value → ri_W → Prop}
theorem nR_eq (hI : inv s) : s.1 4 = nI (nR s) := hI.2.1.2.2.2.2.1.1
theorem nR6 (hI : inv s) : nR s ≤ 6 := hI.2.1.2.2.2.2.1.2
theorem nT8 (hI : inv s) : nT s ≤ 8 := hI.2.1.2.2.2.1.2
theorem nG8 (hI : inv s) : nG s ≤ 8 := hI.2.1.2.2.1.2

theorem m_mostOnDay_l (hI : inv s) (hM : g.2.2.2.2 0 = mdl s) {t : Nat} (ht : t < 8) : ∀ (d i : Nat), i + d = nD s → rv sc 169 4 [(0, .ref 154), (1, .int (nI t)), (2, .int (nI (mxN (fun q => ct (fun k => hT s t (q * nP s + k)) (nP s)) i))), (3, .int (nI i))] [] (Wd g) Q = Q (some (.int (nI (mxN (fun q => ct (fun k => hT s t (q * nP s + k)) (nP s)) (nD s))))) (Wd g) := by
  have h48 := (sl48 hI).1
  have h20 := nC20 hI
  have h6 := nP6 hI
  have h8 := nD8 hI
  have hmx : ∀ i, mxN (fun q => ct (fun k => hT s t (q * nP s + k)) (nP s)) i ≤ 6 := by
    intro i
    induction i with
    | zero => exact Nat.zero_le _
    | succ i ih =>
      unfold mxN
      split
      · exact Nat.le_trans (ct_le _ _) h6
      · exact ih
  intro d
  induction d with
  | zero =>
    intro i hi
    have h5 : nI (nD s) ≤ nI i := nI_le (by omega) (by omega)
    rw [u169_4]
    simp only [↓u169_0, ↓u169_1, ↓u169_2, ↓u169_3, ↓u169_5, ↓u169_6, ↓u169_9, ↓u169_10, ↓u169_11, ↓u169_42, ↓u169_14, ↓u169_43, ↓u169_15, ↓u169_16, ↓u169_17, ↓u169_18, ↓u169_21, ↓u169_23, ↓u169_25, ↓u169_26, ↓u169_34, ↓u169_29, ↓u169_35, ↓u169_31, ↓u169_36, ↓u169_39, h5, if_true, if_false, ↓df0, ↓dI0, r0, m0, hM, mdl_n (show 0 < 6 by decide), nD_eq hI]
    rw [show i = nD s by omega]
  | succ d ih =>
    intro i hi
    have h5 : ¬ nI (nD s) ≤ nI i := nI_ge (by omega) (by omega)
    have ih1 := ih (i + 1) (by omega)
    have d1 : ∀ Q, ev sc 137 [.ref 154, .int (nI t), .int (nI i), .int 1] (Wd g) Q = Q (some (.int (nI (ct (fun p => hT s t (i * nP s + p)) (nP s))))) (Wd g) := fun Q => by
      rw [← day_T hI ht]
      exact m_onDay (b := true) hI hM (by omega) (by omega)
    have b1 := hmx i
    have b2 := ct_le (fun k => hT s t (i * nP s + k)) (nP s)
    have hlt : (nI (mxN (fun q => ct (fun k => hT s t (q * nP s + k)) (nP s)) i) < nI (ct (fun k => hT s t (i * nP s + k)) (nP s))) = (mxN (fun q => ct (fun k => hT s t (q * nP s + k)) (nP s)) i < ct (fun k => hT s t (i * nP s + k)) (nP s)) := propext (nI_ltI (by omega) (by omega))
    have hle : (nI (ct (fun k => hT s t (i * nP s + k)) (nP s)) ≤ nI (mxN (fun q => ct (fun k => hT s t (q * nP s + k)) (nP s)) i)) = ¬ (mxN (fun q => ct (fun k => hT s t (q * nP s + k)) (nP s)) i < ct (fun k => hT s t (i * nP s + k)) (nP s)) := propext ((nI_leI (by omega) (by omega)).trans Nat.not_lt.symm)
    rw [u169_4]
    simp only [↓u169_0, ↓u169_1, ↓u169_2, ↓u169_3, ↓u169_5, ↓u169_6, ↓u169_9, ↓u169_10, ↓u169_11, ↓u169_42, ↓u169_14, ↓u169_43, ↓u169_15, ↓u169_16, ↓u169_17, ↓u169_18, ↓u169_21, ↓u169_23, ↓u169_25, ↓u169_26, ↓u169_34, ↓u169_29, ↓u169_35, ↓u169_31, ↓u169_36, ↓u169_39, h5, if_true, if_false, ↓df0, ↓dI0, r0, m0, hM, mdl_n (show 0 < 6 by decide), nD_eq hI, ↓d_o, ↓d1, ↓c_v_some, hlt, hle, nI_1]
    rw [← ih1]
    simp only [mxN]
    by_cases e : mxN (fun q => ct (fun k => hT s t (q * nP s + k)) (nP s)) i < ct (fun k => hT s t (i * nP s + k)) (nP s) <;> simp [e]

theorem m_mostOnDay (hI : inv s) (hM : g.2.2.2.2 0 = mdl s) {t : Nat} (ht : t < 8) : ev sc 169 [.ref 154, .int (nI t)] (Wd g) Q = Q (some (.int (nI (mxN (fun q => ct (fun k => hT s t (q * nP s + k)) (nP s)) (nD s))))) (Wd g) := by
  have h48 := (sl48 hI).1
  have h20 := nC20 hI
  have h6 := nP6 hI
  have h8 := nD8 hI
  simp only [↓en169, ↓u169_0, ↓u169_1, ↓u169_2, ↓u169_3, ↓u169_5, ↓u169_6, ↓u169_9, ↓u169_10, ↓u169_11, ↓u169_42, ↓u169_14, ↓u169_43, ↓u169_15, ↓u169_16, ↓u169_17, ↓u169_18, ↓u169_21, ↓u169_23, ↓u169_25, ↓u169_26, ↓u169_34, ↓u169_29, ↓u169_35, ↓u169_31, ↓u169_36, ↓u169_39]
  exact m_mostOnDay_l hI hM ht (nD s) 0 (by omega)

theorem m_coursesOf0_l (hI : inv s) (hM : g.2.2.2.2 0 = mdl s) {t : Nat} : ∀ (d i : Nat), i + d = nC s → rv sc 170 5 [(0, .ref 154), (1, .int (nI t)), (2, .int 0), (3, .int (nI (ct (fun c => decide (fact s c 3 = nI t)) i))), (4, .int (nI i))] [] (Wd g) Q = Q (some (.int (nI (ct (fun c => decide (fact s c 3 = nI t)) (nC s))))) (Wd g) := by
  have h48 := (sl48 hI).1
  have h20 := nC20 hI
  have h6 := nP6 hI
  have h8 := nD8 hI
  intro d
  induction d with
  | zero =>
    intro i hi
    have h5 : nI (nC s) ≤ nI i := nI_le (by omega) (by omega)
    rw [u170_5]
    simp only [↓u170_0, ↓u170_1, ↓u170_2, ↓u170_3, ↓u170_7, ↓u170_8, ↓u170_11, ↓u170_12, ↓u170_13, ↓u170_55, ↓u170_16, ↓u170_56, ↓u170_17, ↓u170_18, ↓u170_20, ↓u170_21, ↓u170_24, ↓u170_25, ↓u170_32, ↓u170_28, ↓u170_33, ↓u170_29, ↓u170_46, ↓u170_36, ↓u170_47, ↓u170_37, ↓u170_48, ↓u170_39, ↓u170_49, ↓u170_40, ↓u170_52, ↓u170_43, h5, if_true, if_false, ↓df0, ↓dI0, r5, m5, hM, mdl_n (show 5 < 6 by decide), nC_eq hI]
    rw [show i = nC s by omega]
  | succ d ih =>
    intro i hi
    have h5 : ¬ nI (nC s) ≤ nI i := nI_ge (by omega) (by omega)
    have ih1 := ih (i + 1) (by omega)
    rw [u170_5]
    simp only [↓u170_0, ↓u170_1, ↓u170_2, ↓u170_3, ↓u170_7, ↓u170_8, ↓u170_11, ↓u170_12, ↓u170_13, ↓u170_55, ↓u170_16, ↓u170_56, ↓u170_17, ↓u170_18, ↓u170_20, ↓u170_21, ↓u170_24, ↓u170_25, ↓u170_32, ↓u170_28, ↓u170_33, ↓u170_29, ↓u170_46, ↓u170_36, ↓u170_47, ↓u170_37, ↓u170_48, ↓u170_39, ↓u170_49, ↓u170_40, ↓u170_52, ↓u170_43, h5, if_true, if_false, ↓df0, ↓dI0, r5, m5, hM, mdl_n (show 5 < 6 by decide), nC_eq hI, ↓d_o, ↓m_of3 hM (show i < 20 by omega), ↓c_v_some, n00, nI_1]
    by_cases e : fact s i 3 = nI t
    · simp only [ct, e, decide_true, if_true, nI_1] at ih1 ⊢
      exact ih1
    · simp only [ct, e, decide_false, if_false, Nat.add_zero, add0, Bool.false_eq_true] at ih1 ⊢
      exact ih1

theorem m_coursesOf0 (hI : inv s) (hM : g.2.2.2.2 0 = mdl s) {t : Nat} : ev sc 170 [.ref 154, .int (nI t), .int 0] (Wd g) Q = Q (some (.int (nI (ct (fun c => decide (fact s c 3 = nI t)) (nC s))))) (Wd g) := by
  have h48 := (sl48 hI).1
  have h20 := nC20 hI
  have h6 := nP6 hI
  have h8 := nD8 hI
  simp only [↓en170, ↓u170_0, ↓u170_1, ↓u170_2, ↓u170_3, ↓u170_7, ↓u170_8, ↓u170_11, ↓u170_12, ↓u170_13, ↓u170_55, ↓u170_16, ↓u170_56, ↓u170_17, ↓u170_18, ↓u170_20, ↓u170_21, ↓u170_24, ↓u170_25, ↓u170_32, ↓u170_28, ↓u170_33, ↓u170_29, ↓u170_46, ↓u170_36, ↓u170_47, ↓u170_37, ↓u170_48, ↓u170_39, ↓u170_49, ↓u170_40, ↓u170_52, ↓u170_43]
  exact m_coursesOf0_l hI hM (nC s) 0 (by omega)

theorem m_coursesOf1_l (hI : inv s) (hM : g.2.2.2.2 0 = mdl s) {t : Nat} : ∀ (d i : Nat), i + d = nC s → rv sc 170 5 [(0, .ref 154), (1, .int (nI t)), (2, .int 1), (3, .int (smI (fun c => if fact s c 3 = nI t then fact s c 5 else 0) i)), (4, .int (nI i))] [] (Wd g) Q = Q (some (.int (smI (fun c => if fact s c 3 = nI t then fact s c 5 else 0) (nC s)))) (Wd g) := by
  have h48 := (sl48 hI).1
  have h20 := nC20 hI
  have h6 := nP6 hI
  have h8 := nD8 hI
  intro d
  induction d with
  | zero =>
    intro i hi
    have h5 : nI (nC s) ≤ nI i := nI_le (by omega) (by omega)
    rw [u170_5]
    simp only [↓u170_0, ↓u170_1, ↓u170_2, ↓u170_3, ↓u170_7, ↓u170_8, ↓u170_11, ↓u170_12, ↓u170_13, ↓u170_55, ↓u170_16, ↓u170_56, ↓u170_17, ↓u170_18, ↓u170_20, ↓u170_21, ↓u170_24, ↓u170_25, ↓u170_32, ↓u170_28, ↓u170_33, ↓u170_29, ↓u170_46, ↓u170_36, ↓u170_47, ↓u170_37, ↓u170_48, ↓u170_39, ↓u170_49, ↓u170_40, ↓u170_52, ↓u170_43, h5, if_true, if_false, ↓df0, ↓dI0, r5, m5, hM, mdl_n (show 5 < 6 by decide), nC_eq hI]
    rw [show i = nC s by omega]
  | succ d ih =>
    intro i hi
    have h5 : ¬ nI (nC s) ≤ nI i := nI_ge (by omega) (by omega)
    have ih1 := ih (i + 1) (by omega)
    rw [u170_5]
    simp only [↓u170_0, ↓u170_1, ↓u170_2, ↓u170_3, ↓u170_7, ↓u170_8, ↓u170_11, ↓u170_12, ↓u170_13, ↓u170_55, ↓u170_16, ↓u170_56, ↓u170_17, ↓u170_18, ↓u170_20, ↓u170_21, ↓u170_24, ↓u170_25, ↓u170_32, ↓u170_28, ↓u170_33, ↓u170_29, ↓u170_46, ↓u170_36, ↓u170_47, ↓u170_37, ↓u170_48, ↓u170_39, ↓u170_49, ↓u170_40, ↓u170_52, ↓u170_43, h5, if_true, if_false, ↓df0, ↓dI0, r5, m5, hM, mdl_n (show 5 < 6 by decide), nC_eq hI, ↓d_o, ↓m_of3 hM (show i < 20 by omega), ↓m_of5 hM (show i < 20 by omega), ↓c_v_some, n10, nI_1]
    by_cases e : fact s i 3 = nI t
    · simp only [smI, e, if_true] at ih1 ⊢
      exact ih1
    · simp only [smI, e, if_false, add0] at ih1 ⊢
      exact ih1

theorem m_coursesOf1 (hI : inv s) (hM : g.2.2.2.2 0 = mdl s) {t : Nat} : ev sc 170 [.ref 154, .int (nI t), .int 1] (Wd g) Q = Q (some (.int (smI (fun c => if fact s c 3 = nI t then fact s c 5 else 0) (nC s)))) (Wd g) := by
  have h48 := (sl48 hI).1
  have h20 := nC20 hI
  have h6 := nP6 hI
  have h8 := nD8 hI
  simp only [↓en170, ↓u170_0, ↓u170_1, ↓u170_2, ↓u170_3, ↓u170_7, ↓u170_8, ↓u170_11, ↓u170_12, ↓u170_13, ↓u170_55, ↓u170_16, ↓u170_56, ↓u170_17, ↓u170_18, ↓u170_20, ↓u170_21, ↓u170_24, ↓u170_25, ↓u170_32, ↓u170_28, ↓u170_33, ↓u170_29, ↓u170_46, ↓u170_36, ↓u170_47, ↓u170_37, ↓u170_48, ↓u170_39, ↓u170_49, ↓u170_40, ↓u170_52, ↓u170_43]
  exact m_coursesOf1_l hI hM (nC s) 0 (by omega)

theorem m_lessonsFor0_l (hI : inv s) (hM : g.2.2.2.2 0 = mdl s) {x h : Int32} : ∀ (d i : Nat), i + d = nC s → rv sc 172 6 [(0, .ref 154), (1, .int x), (2, .int h), (3, .int 0), (4, .int (nI (sm (fun c => if tkP s c x h = true then plc s c else 0) i))), (5, .int (nI i))] [] (Wd g) Q = Q (some (.int (nI (sm (fun c => if tkP s c x h = true then plc s c else 0) (nC s))))) (Wd g) := by
  have h48 := (sl48 hI).1
  have h20 := nC20 hI
  have h6 := nP6 hI
  have h8 := nD8 hI
  intro d
  induction d with
  | zero =>
    intro i hi
    have h5 : nI (nC s) ≤ nI i := nI_le (by omega) (by omega)
    rw [u172_6]
    simp only [↓u172_0, ↓u172_1, ↓u172_3, ↓u172_4, ↓u172_8, ↓u172_9, ↓u172_12, ↓u172_13, ↓u172_14, ↓u172_66, ↓u172_17, ↓u172_68, ↓u172_18, ↓u172_20, ↓u172_21, ↓u172_22, ↓u172_25, ↓u172_60, ↓u172_28, ↓u172_63, ↓u172_30, ↓u172_31, ↓u172_51, ↓u172_34, ↓u172_52, ↓u172_35, ↓u172_54, ↓u172_37, ↓u172_57, ↓u172_38, ↓u172_58, ↓u172_41, ↓u172_42, ↓u172_44, ↓u172_47, ↓u172_48, h5, if_true, if_false, ↓df0, ↓dI0, r5, m5, hM, mdl_n (show 5 < 6 by decide), nC_eq hI]
    rw [show i = nC s by omega]
  | succ d ih =>
    intro i hi
    have h5 : ¬ nI (nC s) ≤ nI i := nI_ge (by omega) (by omega)
    have ih1 := ih (i + 1) (by omega)
    rw [u172_6]
    simp only [↓u172_0, ↓u172_1, ↓u172_3, ↓u172_4, ↓u172_8, ↓u172_9, ↓u172_12, ↓u172_13, ↓u172_14, ↓u172_66, ↓u172_17, ↓u172_68, ↓u172_18, ↓u172_20, ↓u172_21, ↓u172_22, ↓u172_25, ↓u172_60, ↓u172_28, ↓u172_63, ↓u172_30, ↓u172_31, ↓u172_51, ↓u172_34, ↓u172_52, ↓u172_35, ↓u172_54, ↓u172_37, ↓u172_57, ↓u172_38, ↓u172_58, ↓u172_41, ↓u172_42, ↓u172_44, ↓u172_47, ↓u172_48, h5, if_true, if_false, ↓df0, ↓dI0, r5, m5, hM, mdl_n (show 5 < 6 by decide), nC_eq hI, ↓d_o, ↓m_takesPart hM (show i < 20 by omega), ↓m_placed hI hM (show i < 20 by omega), ↓c_v_some, n00, nI_add, nI_1]
    cases hx : tkP s i x h
    · simp only [sm, hx, if_false, bI_f, n00, if_true, Bool.false_eq_true, Nat.add_zero, add0] at ih1 ⊢
      exact ih1
    · simp only [sm, hx, if_true, bI_t, n10, if_false, nI_1] at ih1 ⊢
      exact ih1

theorem m_lessonsFor0 (hI : inv s) (hM : g.2.2.2.2 0 = mdl s) {x h : Int32} : ev sc 172 [.ref 154, .int x, .int h, .int 0] (Wd g) Q = Q (some (.int (nI (sm (fun c => if tkP s c x h = true then plc s c else 0) (nC s))))) (Wd g) := by
  have h48 := (sl48 hI).1
  have h20 := nC20 hI
  have h6 := nP6 hI
  have h8 := nD8 hI
  simp only [↓en172, ↓u172_0, ↓u172_1, ↓u172_3, ↓u172_4, ↓u172_8, ↓u172_9, ↓u172_12, ↓u172_13, ↓u172_14, ↓u172_66, ↓u172_17, ↓u172_68, ↓u172_18, ↓u172_20, ↓u172_21, ↓u172_22, ↓u172_25, ↓u172_60, ↓u172_28, ↓u172_63, ↓u172_30, ↓u172_31, ↓u172_51, ↓u172_34, ↓u172_52, ↓u172_35, ↓u172_54, ↓u172_37, ↓u172_57, ↓u172_38, ↓u172_58, ↓u172_41, ↓u172_42, ↓u172_44, ↓u172_47, ↓u172_48]
  exact m_lessonsFor0_l hI hM (nC s) 0 (by omega)

theorem m_lessonsFor1_l (hI : inv s) (hM : g.2.2.2.2 0 = mdl s) {x h : Int32} : ∀ (d i : Nat), i + d = nC s → rv sc 172 6 [(0, .ref 154), (1, .int x), (2, .int h), (3, .int 1), (4, .int (smI (fun c => if tkP s c x h = true then misS s c else 0) i)), (5, .int (nI i))] [] (Wd g) Q = Q (some (.int (smI (fun c => if tkP s c x h = true then misS s c else 0) (nC s)))) (Wd g) := by
  have h48 := (sl48 hI).1
  have h20 := nC20 hI
  have h6 := nP6 hI
  have h8 := nD8 hI
  intro d
  induction d with
  | zero =>
    intro i hi
    have h5 : nI (nC s) ≤ nI i := nI_le (by omega) (by omega)
    rw [u172_6]
    simp only [↓u172_0, ↓u172_1, ↓u172_3, ↓u172_4, ↓u172_8, ↓u172_9, ↓u172_12, ↓u172_13, ↓u172_14, ↓u172_66, ↓u172_17, ↓u172_68, ↓u172_18, ↓u172_20, ↓u172_21, ↓u172_22, ↓u172_25, ↓u172_60, ↓u172_28, ↓u172_63, ↓u172_30, ↓u172_31, ↓u172_51, ↓u172_34, ↓u172_52, ↓u172_35, ↓u172_54, ↓u172_37, ↓u172_57, ↓u172_38, ↓u172_58, ↓u172_41, ↓u172_42, ↓u172_44, ↓u172_47, ↓u172_48, h5, if_true, if_false, ↓df0, ↓dI0, r5, m5, hM, mdl_n (show 5 < 6 by decide), nC_eq hI]
    rw [show i = nC s by omega]
  | succ d ih =>
    intro i hi
    have h5 : ¬ nI (nC s) ≤ nI i := nI_ge (by omega) (by omega)
    have ih1 := ih (i + 1) (by omega)
    rw [u172_6]
    simp only [↓u172_0, ↓u172_1, ↓u172_3, ↓u172_4, ↓u172_8, ↓u172_9, ↓u172_12, ↓u172_13, ↓u172_14, ↓u172_66, ↓u172_17, ↓u172_68, ↓u172_18, ↓u172_20, ↓u172_21, ↓u172_22, ↓u172_25, ↓u172_60, ↓u172_28, ↓u172_63, ↓u172_30, ↓u172_31, ↓u172_51, ↓u172_34, ↓u172_52, ↓u172_35, ↓u172_54, ↓u172_37, ↓u172_57, ↓u172_38, ↓u172_58, ↓u172_41, ↓u172_42, ↓u172_44, ↓u172_47, ↓u172_48, h5, if_true, if_false, ↓df0, ↓dI0, r5, m5, hM, mdl_n (show 5 < 6 by decide), nC_eq hI, ↓d_o, ↓m_takesPart hM (show i < 20 by omega), ↓m_placed hI hM (show i < 20 by omega), ↓m_of5 hM (show i < 20 by omega), ↓c_v_some, n10, nI_1]
    cases hx : tkP s i x h
    · simp only [smI, hx, if_false, bI_f, n00, if_true, Bool.false_eq_true, Nat.add_zero, add0] at ih1 ⊢
      exact ih1
    · simp only [smI, hx, if_true, bI_t, n10, if_false, nI_1] at ih1 ⊢
      exact ih1

theorem m_lessonsFor1 (hI : inv s) (hM : g.2.2.2.2 0 = mdl s) {x h : Int32} : ev sc 172 [.ref 154, .int x, .int h, .int 1] (Wd g) Q = Q (some (.int (smI (fun c => if tkP s c x h = true then misS s c else 0) (nC s)))) (Wd g) := by
  have h48 := (sl48 hI).1
  have h20 := nC20 hI
  have h6 := nP6 hI
  have h8 := nD8 hI
  simp only [↓en172, ↓u172_0, ↓u172_1, ↓u172_3, ↓u172_4, ↓u172_8, ↓u172_9, ↓u172_12, ↓u172_13, ↓u172_14, ↓u172_66, ↓u172_17, ↓u172_68, ↓u172_18, ↓u172_20, ↓u172_21, ↓u172_22, ↓u172_25, ↓u172_60, ↓u172_28, ↓u172_63, ↓u172_30, ↓u172_31, ↓u172_51, ↓u172_34, ↓u172_52, ↓u172_35, ↓u172_54, ↓u172_37, ↓u172_57, ↓u172_38, ↓u172_58, ↓u172_41, ↓u172_42, ↓u172_44, ↓u172_47, ↓u172_48]
  exact m_lessonsFor1_l hI hM (nC s) 0 (by omega)

theorem m_taken_l (hI : inv s) (hM : g.2.2.2.2 0 = mdl s) {r : Nat} (hr : r < 6) : ∀ (d i : Nat), i + d = slS s → rv sc 174 4 [(0, .ref 154), (1, .int (nI r)), (2, .int (nI (ct (hR s r) i))), (3, .int (nI i))] [] (Wd g) Q = Q (some (.int (nI (ct (hR s r) (slS s))))) (Wd g) := by
  have h48 := (sl48 hI).1
  have h20 := nC20 hI
  have h6 := nP6 hI
  have h8 := nD8 hI
  intro d
  induction d with
  | zero =>
    intro i hi
    have h5 : nI (slS s) ≤ nI i := nI_le (by omega) (by omega)
    rw [u174_4]
    simp only [↓u174_0, ↓u174_1, ↓u174_2, ↓u174_3, ↓u174_5, ↓u174_6, ↓u174_9, ↓u174_37, ↓u174_12, ↓u174_38, ↓u174_13, ↓u174_14, ↓u174_15, ↓u174_16, ↓u174_19, ↓u174_21, ↓u174_28, ↓u174_24, ↓u174_29, ↓u174_25, ↓u174_30, ↓u174_31, ↓u174_34, h5, if_true, if_false, ↓d_o, ↓m_slots hM, sl_eq hI, ↓c_v_some]
    rw [show i = slS s by omega]
  | succ d ih =>
    intro i hi
    have h5 : ¬ nI (slS s) ≤ nI i := nI_ge (by omega) (by omega)
    have ih1 := ih (i + 1) (by omega)
    rw [u174_4]
    simp only [↓u174_0, ↓u174_1, ↓u174_2, ↓u174_3, ↓u174_5, ↓u174_6, ↓u174_9, ↓u174_37, ↓u174_12, ↓u174_38, ↓u174_13, ↓u174_14, ↓u174_15, ↓u174_16, ↓u174_19, ↓u174_21, ↓u174_28, ↓u174_24, ↓u174_29, ↓u174_25, ↓u174_30, ↓u174_31, ↓u174_34, h5, if_true, if_false, ↓d_o, ↓m_slots hM, sl_eq hI, ↓c_v_some, ↓m_courseIn hI hM (show i < 48 by omega), fdI_n5 (show nC s < 2 ^ 31 by omega), any_R hI hr, nI_1]
    cases hx : hR s r i
    · simp only [ct, hx, if_false, if_true, Bool.false_eq_true, Nat.add_zero, add0] at ih1 ⊢
      exact ih1
    · simp only [ct, hx, if_true, if_false, nI_1, Bool.true_eq_false] at ih1 ⊢
      exact ih1

theorem m_taken (hI : inv s) (hM : g.2.2.2.2 0 = mdl s) {r : Nat} (hr : r < 6) : ev sc 174 [.ref 154, .int (nI r)] (Wd g) Q = Q (some (.int (nI (ct (hR s r) (slS s))))) (Wd g) := by
  have h48 := (sl48 hI).1
  have h20 := nC20 hI
  have h6 := nP6 hI
  have h8 := nD8 hI
  simp only [↓en174, ↓u174_0, ↓u174_1, ↓u174_2, ↓u174_3, ↓u174_5, ↓u174_6, ↓u174_9, ↓u174_37, ↓u174_12, ↓u174_38, ↓u174_13, ↓u174_14, ↓u174_15, ↓u174_16, ↓u174_19, ↓u174_21, ↓u174_28, ↓u174_24, ↓u174_29, ↓u174_25, ↓u174_30, ↓u174_31, ↓u174_34]
  exact m_taken_l hI hM hr (slS s) 0 (by omega)

theorem m_lessonsInAll_l (hI : inv s) (hM : g.2.2.2.2 0 = mdl s) : ∀ (d i : Nat), i + d = nC s → rv sc 176 4 [(0, .ref 154), (1, .int (smI (fun c => fact s c 5) i)), (2, .int (nI i))] [] (Wd g) Q = Q (some (.int (smI (fun c => fact s c 5) (nC s)))) (Wd g) := by
  have h48 := (sl48 hI).1
  have h20 := nC20 hI
  have h6 := nP6 hI
  have h8 := nD8 hI
  intro d
  induction d with
  | zero =>
    intro i hi
    have h5 : nI (nC s) ≤ nI i := nI_le (by omega) (by omega)
    rw [u176_4]
    simp only [↓u176_0, ↓u176_1, ↓u176_2, ↓u176_3, ↓u176_5, ↓u176_6, ↓u176_9, ↓u176_10, ↓u176_11, ↓u176_29, ↓u176_14, ↓u176_30, ↓u176_15, ↓u176_16, ↓u176_17, ↓u176_18, ↓u176_21, ↓u176_22, ↓u176_23, ↓u176_26, h5, if_true, if_false, ↓df0, ↓dI0, r5, m5, hM, mdl_n (show 5 < 6 by decide), nC_eq hI]
    rw [show i = nC s by omega]
  | succ d ih =>
    intro i hi
    have h5 : ¬ nI (nC s) ≤ nI i := nI_ge (by omega) (by omega)
    have ih1 := ih (i + 1) (by omega)
    rw [u176_4]
    simp only [↓u176_0, ↓u176_1, ↓u176_2, ↓u176_3, ↓u176_5, ↓u176_6, ↓u176_9, ↓u176_10, ↓u176_11, ↓u176_29, ↓u176_14, ↓u176_30, ↓u176_15, ↓u176_16, ↓u176_17, ↓u176_18, ↓u176_21, ↓u176_22, ↓u176_23, ↓u176_26, h5, if_true, if_false, ↓df0, ↓dI0, r5, m5, hM, mdl_n (show 5 < 6 by decide), nC_eq hI, ↓d_o, ↓m_of5 hM (show i < 20 by omega), ↓c_v_some, nI_1]
    exact ih1

theorem m_lessonsInAll (hI : inv s) (hM : g.2.2.2.2 0 = mdl s) : ev sc 176 [.ref 154] (Wd g) Q = Q (some (.int (smI (fun c => fact s c 5) (nC s)))) (Wd g) := by
  have h48 := (sl48 hI).1
  have h20 := nC20 hI
  have h6 := nP6 hI
  have h8 := nD8 hI
  simp only [↓en176, ↓u176_0, ↓u176_1, ↓u176_2, ↓u176_3, ↓u176_5, ↓u176_6, ↓u176_9, ↓u176_10, ↓u176_11, ↓u176_29, ↓u176_14, ↓u176_30, ↓u176_15, ↓u176_16, ↓u176_17, ↓u176_18, ↓u176_21, ↓u176_22, ↓u176_23, ↓u176_26]
  exact m_lessonsInAll_l hI hM (nC s) 0 (by omega)

theorem m_placesFor_l2 (hI : inv s) (hM : g.2.2.2.2 0 = mdl s) {c m n : Nat} (hc : c < nC s) (hm : m < slS s) : ∀ (d i : Nat), i + d = nR s → rv sc 160 15 [(0, .ref 154), (1, .int (nI c)), (2, .int (nI (n + ct (fun r => decide (fstS s c m r = 0)) i))), (3, .int (nI m)), (4, .int (nI i))] [] (Wd g) Q = rv sc 160 4 [(0, .ref 154), (1, .int (nI c)), (2, .int (nI (n + ct (fun r => decide (fstS s c m r = 0)) (nR s)))), (3, .int (nI (m + 1)))] [] (Wd g) Q := by
  have h48 := (sl48 hI).1
  have h20 := nC20 hI
  have h6 := nP6 hI
  have h8 := nD8 hI
  have hR6 := nR6 hI
  intro d
  induction d with
  | zero =>
    intro i hi
    have h5 : nI (nR s) ≤ nI i := nI_le (by omega) (by omega)
    rw [u160_15]
    simp only [↓u160_0, ↓u160_1, ↓u160_2, ↓u160_3, ↓u160_5, ↓u160_6, ↓u160_9, ↓u160_57, ↓u160_12, ↓u160_58, ↓u160_13, ↓u160_17, ↓u160_18, ↓u160_21, ↓u160_22, ↓u160_23, ↓u160_51, ↓u160_26, ↓u160_54, ↓u160_27, ↓u160_28, ↓u160_29, ↓u160_30, ↓u160_32, ↓u160_35, ↓u160_42, ↓u160_38, ↓u160_43, ↓u160_39, ↓u160_44, ↓u160_45, ↓u160_48, h5, if_true, if_false, ↓df0, ↓dI0, r4, m4, hM, mdl_n (show 4 < 6 by decide), nR_eq hI, nI_1]
    rw [show i = nR s by omega]
  | succ d ih =>
    intro i hi
    have h5 : ¬ nI (nR s) ≤ nI i := nI_ge (by omega) (by omega)
    have ih1 := ih (i + 1) (by omega)
    rw [u160_15]
    simp only [↓u160_0, ↓u160_1, ↓u160_2, ↓u160_3, ↓u160_5, ↓u160_6, ↓u160_9, ↓u160_57, ↓u160_12, ↓u160_58, ↓u160_13, ↓u160_17, ↓u160_18, ↓u160_21, ↓u160_22, ↓u160_23, ↓u160_51, ↓u160_26, ↓u160_54, ↓u160_27, ↓u160_28, ↓u160_29, ↓u160_30, ↓u160_32, ↓u160_35, ↓u160_42, ↓u160_38, ↓u160_43, ↓u160_39, ↓u160_44, ↓u160_45, ↓u160_48, h5, if_true, if_false, ↓df0, ↓dI0, r4, m4, hM, mdl_n (show 4 < 6 by decide), nR_eq hI, ↓d_o, ↓m_reasonOf hI hM hc hm (show i < nR s by omega), ↓c_v_some, nI_1]
    by_cases e : fstS s c m i = 0
    · simp only [ct, e, decide_true, if_true, nI_1, Nat.add_assoc] at ih1 ⊢
      exact ih1
    · simp only [ct, e, decide_false, if_false, Bool.false_eq_true, Nat.add_zero, add0] at ih1 ⊢
      exact ih1
theorem m_placesFor_l (hI : inv s) (hM : g.2.2.2.2 0 = mdl s) {c : Nat} (hc : c < nC s) : ∀ (d i : Nat), i + d = slS s → rv sc 160 4 [(0, .ref 154), (1, .int (nI c)), (2, .int (nI (sm (fun m => ct (fun r => decide (fstS s c m r = 0)) (nR s)) i))), (3, .int (nI i))] [] (Wd g) Q = Q (some (.int (nI (sm (fun m => ct (fun r => decide (fstS s c m r = 0)) (nR s)) (slS s))))) (Wd g) := by
  have h48 := (sl48 hI).1
  have h20 := nC20 hI
  have h6 := nP6 hI
  have h8 := nD8 hI
  intro d
  induction d with
  | zero =>
    intro i hi
    have h5 : nI (slS s) ≤ nI i := nI_le (by omega) (by omega)
    rw [u160_4]
    simp only [↓u160_0, ↓u160_1, ↓u160_2, ↓u160_3, ↓u160_5, ↓u160_6, ↓u160_9, ↓u160_57, ↓u160_12, ↓u160_58, ↓u160_13, ↓u160_17, ↓u160_18, ↓u160_21, ↓u160_22, ↓u160_23, ↓u160_51, ↓u160_26, ↓u160_54, ↓u160_27, ↓u160_28, ↓u160_29, ↓u160_30, ↓u160_32, ↓u160_35, ↓u160_42, ↓u160_38, ↓u160_43, ↓u160_39, ↓u160_44, ↓u160_45, ↓u160_48, h5, if_true, if_false, ↓d_o, ↓m_slots hM, sl_eq hI, ↓c_v_some]
    rw [show i = slS s by omega]
  | succ d ih =>
    intro i hi
    have h5 : ¬ nI (slS s) ≤ nI i := nI_ge (by omega) (by omega)
    have ih1 := ih (i + 1) (by omega)
    have hin := m_placesFor_l2 (sc := sc) (g := g) (Q := Q) hI hM hc (m := i) (n := sm (fun m => ct (fun r => decide (fstS s c m r = 0)) (nR s)) i) (by omega) (nR s) 0 (by omega)
    rw [u160_4]
    simp only [↓u160_0, ↓u160_1, ↓u160_2, ↓u160_3, ↓u160_5, ↓u160_6, ↓u160_9, ↓u160_57, ↓u160_12, ↓u160_58, ↓u160_13, ↓u160_17, ↓u160_18, ↓u160_21, ↓u160_22, ↓u160_23, ↓u160_51, ↓u160_26, ↓u160_54, ↓u160_27, ↓u160_28, ↓u160_29, ↓u160_30, ↓u160_32, ↓u160_35, ↓u160_42, ↓u160_38, ↓u160_43, ↓u160_39, ↓u160_44, ↓u160_45, ↓u160_48, h5, if_true, if_false, ↓d_o, ↓m_slots hM, sl_eq hI, ↓c_v_some]
    exact hin.trans ih1
theorem pf_free {c m : Nat} : ct (fun r => decide (fstS s c m r = 0)) (nR s) = freeS s c m := by
  unfold freeS
  split
  · rename_i e
    refine ct_cong (fun r _ => ?_)
    unfold fstS
    rw [if_pos e]
  · rename_i e
    refine ct_zero (fun r _ => ?_)
    unfold fstS
    rw [if_neg e]
    exact decide_eq_false e
theorem m_placesFor (hI : inv s) (hM : g.2.2.2.2 0 = mdl s) {c : Nat} (hc : c < nC s) : ev sc 160 [.ref 154, .int (nI c)] (Wd g) Q = Q (some (.int (nI (sm (freeS s c) (slS s))))) (Wd g) := by
  have e : sm (freeS s c) (slS s) = sm (fun m => ct (fun r => decide (fstS s c m r = 0)) (nR s)) (slS s) := sm_cong (fun m _ => pf_free.symm)
  rw [e]
  simp only [↓en160, ↓u160_0, ↓u160_1, ↓u160_2, ↓u160_3, ↓u160_5, ↓u160_6, ↓u160_9, ↓u160_57, ↓u160_12, ↓u160_58, ↓u160_13, ↓u160_17, ↓u160_18, ↓u160_21, ↓u160_22, ↓u160_23, ↓u160_51, ↓u160_26, ↓u160_54, ↓u160_27, ↓u160_28, ↓u160_29, ↓u160_30, ↓u160_32, ↓u160_35, ↓u160_42, ↓u160_38, ↓u160_43, ↓u160_39, ↓u160_44, ↓u160_45, ↓u160_48]
  exact m_placesFor_l hI hM hc (slS s) 0 (by omega)

theorem m_fills_in_no (hI : inv s) (hM : g.2.2.2.2 0 = mdl s) {c m : Nat} (hc : c < nC s) (hm : m < slS s) : ∀ (d i : Nat), i + d = nR s → (∀ r, i ≤ r → r < nR s → fstS s c m r ≠ 0) → rv sc 150 12 [(0, .ref 154), (1, .int (nI c)), (2, .int (nI m)), (3, .int (nI i))] [] (Wd g) Q = rv sc 150 2 [(0, .ref 154), (1, .int (nI c)), (2, .int (nI (m + 1)))] [] (Wd g) Q := by
  have h48 := (sl48 hI).1
  have h20 := nC20 hI
  have h6 := nP6 hI
  have h8 := nD8 hI
  have hR6 := nR6 hI
  intro d
  induction d with
  | zero =>
    intro i hi _
    have h5 : nI (nR s) ≤ nI i := nI_le (by omega) (by omega)
    rw [u150_12]
    simp only [↓u150_0, ↓u150_1, ↓u150_3, ↓u150_4, ↓u150_7, ↓u150_53, ↓u150_10, ↓u150_54, ↓u150_11, ↓u150_13, ↓u150_14, ↓u150_17, ↓u150_18, ↓u150_19, ↓u150_47, ↓u150_22, ↓u150_50, ↓u150_23, ↓u150_24, ↓u150_25, ↓u150_26, ↓u150_29, ↓u150_41, ↓u150_32, ↓u150_44, ↓u150_33, ↓u150_34, ↓u150_35, ↓u150_36, ↓u150_39, ↓u150_40, h5, if_true, if_false, ↓df0, ↓dI0, r4, m4, hM, mdl_n (show 4 < 6 by decide), nR_eq hI, nI_1]
  | succ d ih =>
    intro i hi hno
    have h5 : ¬ nI (nR s) ≤ nI i := nI_ge (by omega) (by omega)
    have ih1 := ih (i + 1) (by omega) (fun r h1 h2 => hno r (by omega) h2)
    have e := hno i (by omega) (by omega)
    rw [u150_12]
    simp only [↓u150_0, ↓u150_1, ↓u150_3, ↓u150_4, ↓u150_7, ↓u150_53, ↓u150_10, ↓u150_54, ↓u150_11, ↓u150_13, ↓u150_14, ↓u150_17, ↓u150_18, ↓u150_19, ↓u150_47, ↓u150_22, ↓u150_50, ↓u150_23, ↓u150_24, ↓u150_25, ↓u150_26, ↓u150_29, ↓u150_41, ↓u150_32, ↓u150_44, ↓u150_33, ↓u150_34, ↓u150_35, ↓u150_36, ↓u150_39, ↓u150_40, h5, if_true, if_false, ↓df0, ↓dI0, r4, m4, hM, mdl_n (show 4 < 6 by decide), nR_eq hI, ↓d_o, ↓m_reasonOf hI hM hc hm (show i < nR s by omega), ↓c_v_some, nI_1, e, ih1]
theorem m_fills_in_yes (hI : inv s) (hM : g.2.2.2.2 0 = mdl s) {c m r : Nat} (hc : c < nC s) (hm : m < slS s) (hr : r < nR s) (h0 : fstS s c m r = 0) (hlow : ∀ r', r' < r → fstS s c m r' ≠ 0) : ∀ (d i : Nat), i + d = r → rv sc 150 12 [(0, .ref 154), (1, .int (nI c)), (2, .int (nI m)), (3, .int (nI i))] [] (Wd g) Q = Q (some (.int 1)) (Wd (gDN g 0 (upF (mdl s) (148 + 48 * c + m) (nI (r + 1))))) := by
  have h48 := (sl48 hI).1
  have h20 := nC20 hI
  have h6 := nP6 hI
  have h8 := nD8 hI
  have hR6 := nR6 hI
  intro d
  induction d with
  | zero =>
    intro i hi
    have h5 : ¬ nI (nR s) ≤ nI i := nI_ge (by omega) (by omega)
    have e : i = r := by omega
    subst e
    rw [u150_12]
    simp only [↓u150_0, ↓u150_1, ↓u150_3, ↓u150_4, ↓u150_7, ↓u150_53, ↓u150_10, ↓u150_54, ↓u150_11, ↓u150_13, ↓u150_14, ↓u150_17, ↓u150_18, ↓u150_19, ↓u150_47, ↓u150_22, ↓u150_50, ↓u150_23, ↓u150_24, ↓u150_25, ↓u150_26, ↓u150_29, ↓u150_41, ↓u150_32, ↓u150_44, ↓u150_33, ↓u150_34, ↓u150_35, ↓u150_36, ↓u150_39, ↓u150_40, h5, if_true, if_false, ↓df0, ↓dI0, r4, m4, hM, mdl_n (show 4 < 6 by decide), nR_eq hI, ↓d_o, ↓m_reasonOf hI hM hc hm (show i < nR s by omega), ↓c_v_some, h0, ↓m_puts hM (show c < 20 by omega) (show m < 48 by omega) (show i < 6 by omega), ↓c_v_none, ↓c_b_1]
  | succ d ih =>
    intro i hi
    have h5 : ¬ nI (nR s) ≤ nI i := nI_ge (by omega) (by omega)
    have ih1 := ih (i + 1) (by omega)
    have e := hlow i (by omega)
    rw [u150_12]
    simp only [↓u150_0, ↓u150_1, ↓u150_3, ↓u150_4, ↓u150_7, ↓u150_53, ↓u150_10, ↓u150_54, ↓u150_11, ↓u150_13, ↓u150_14, ↓u150_17, ↓u150_18, ↓u150_19, ↓u150_47, ↓u150_22, ↓u150_50, ↓u150_23, ↓u150_24, ↓u150_25, ↓u150_26, ↓u150_29, ↓u150_41, ↓u150_32, ↓u150_44, ↓u150_33, ↓u150_34, ↓u150_35, ↓u150_36, ↓u150_39, ↓u150_40, h5, if_true, if_false, ↓df0, ↓dI0, r4, m4, hM, mdl_n (show 4 < 6 by decide), nR_eq hI, ↓d_o, ↓m_reasonOf hI hM hc hm (show i < nR s by omega), ↓c_v_some, nI_1, e, ih1]
theorem m_fills_no (hI : inv s) (hM : g.2.2.2.2 0 = mdl s) {c : Nat} (hc : c < nC s) (hno : ∀ m r, m < slS s → r < nR s → fstS s c m r ≠ 0) : ev sc 150 [.ref 154, .int (nI c)] (Wd g) Q = Q (some (.int 0)) (Wd g) := by
  have h48 := (sl48 hI).1
  have h20 := nC20 hI
  have h6 := nP6 hI
  have h8 := nD8 hI
  have key : ∀ (d i : Nat), i + d = slS s → rv sc 150 2 [(0, .ref 154), (1, .int (nI c)), (2, .int (nI i))] [] (Wd g) Q = Q (some (.int 0)) (Wd g) := by
    intro d
    induction d with
    | zero =>
      intro i hi
      have h5 : nI (slS s) ≤ nI i := nI_le (by omega) (by omega)
      rw [u150_2]
      simp only [↓u150_0, ↓u150_1, ↓u150_3, ↓u150_4, ↓u150_7, ↓u150_53, ↓u150_10, ↓u150_54, ↓u150_11, ↓u150_13, ↓u150_14, ↓u150_17, ↓u150_18, ↓u150_19, ↓u150_47, ↓u150_22, ↓u150_50, ↓u150_23, ↓u150_24, ↓u150_25, ↓u150_26, ↓u150_29, ↓u150_41, ↓u150_32, ↓u150_44, ↓u150_33, ↓u150_34, ↓u150_35, ↓u150_36, ↓u150_39, ↓u150_40, h5, if_true, if_false, ↓d_o, ↓m_slots hM, sl_eq hI, ↓c_v_some, ↓c_b_0]
    | succ d ih =>
      intro i hi
      have h5 : ¬ nI (slS s) ≤ nI i := nI_ge (by omega) (by omega)
      have ih1 := ih (i + 1) (by omega)
      have hin := m_fills_in_no (sc := sc) (g := g) (Q := Q) hI hM hc (m := i) (by omega) (nR s) 0 (by omega) (fun r _ h2 => hno i r (by omega) h2)
      rw [u150_2]
      simp only [↓u150_0, ↓u150_1, ↓u150_3, ↓u150_4, ↓u150_7, ↓u150_53, ↓u150_10, ↓u150_54, ↓u150_11, ↓u150_13, ↓u150_14, ↓u150_17, ↓u150_18, ↓u150_19, ↓u150_47, ↓u150_22, ↓u150_50, ↓u150_23, ↓u150_24, ↓u150_25, ↓u150_26, ↓u150_29, ↓u150_41, ↓u150_32, ↓u150_44, ↓u150_33, ↓u150_34, ↓u150_35, ↓u150_36, ↓u150_39, ↓u150_40, h5, if_true, if_false, ↓d_o, ↓m_slots hM, sl_eq hI, ↓c_v_some]
      exact hin.trans ih1
  simp only [↓en150, ↓u150_0, ↓u150_1, ↓u150_3, ↓u150_4, ↓u150_7, ↓u150_53, ↓u150_10, ↓u150_54, ↓u150_11, ↓u150_13, ↓u150_14, ↓u150_17, ↓u150_18, ↓u150_19, ↓u150_47, ↓u150_22, ↓u150_50, ↓u150_23, ↓u150_24, ↓u150_25, ↓u150_26, ↓u150_29, ↓u150_41, ↓u150_32, ↓u150_44, ↓u150_33, ↓u150_34, ↓u150_35, ↓u150_36, ↓u150_39, ↓u150_40]
  exact key (slS s) 0 (by omega)
theorem m_fills_yes (hI : inv s) (hM : g.2.2.2.2 0 = mdl s) {c m r : Nat} (hc : c < nC s) (hm : m < slS s) (hr : r < nR s) (h0 : fstS s c m r = 0) (hlow : ∀ r', r' < r → fstS s c m r' ≠ 0) (hno : ∀ m' r', m' < m → r' < nR s → fstS s c m' r' ≠ 0) : ev sc 150 [.ref 154, .int (nI c)] (Wd g) Q = Q (some (.int 1)) (Wd (gDN g 0 (upF (mdl s) (148 + 48 * c + m) (nI (r + 1))))) := by
  have h48 := (sl48 hI).1
  have h20 := nC20 hI
  have h6 := nP6 hI
  have h8 := nD8 hI
  have key : ∀ (d i : Nat), i + d = m → rv sc 150 2 [(0, .ref 154), (1, .int (nI c)), (2, .int (nI i))] [] (Wd g) Q = Q (some (.int 1)) (Wd (gDN g 0 (upF (mdl s) (148 + 48 * c + m) (nI (r + 1))))) := by
    intro d
    induction d with
    | zero =>
      intro i hi
      have h5 : ¬ nI (slS s) ≤ nI i := nI_ge (by omega) (by omega)
      have e : i = m := by omega
      subst e
      have hin := m_fills_in_yes (sc := sc) (g := g) (Q := Q) hI hM hc hm hr h0 hlow r 0 (by omega)
      rw [u150_2]
      simp only [↓u150_0, ↓u150_1, ↓u150_3, ↓u150_4, ↓u150_7, ↓u150_53, ↓u150_10, ↓u150_54, ↓u150_11, ↓u150_13, ↓u150_14, ↓u150_17, ↓u150_18, ↓u150_19, ↓u150_47, ↓u150_22, ↓u150_50, ↓u150_23, ↓u150_24, ↓u150_25, ↓u150_26, ↓u150_29, ↓u150_41, ↓u150_32, ↓u150_44, ↓u150_33, ↓u150_34, ↓u150_35, ↓u150_36, ↓u150_39, ↓u150_40, h5, if_true, if_false, ↓d_o, ↓m_slots hM, sl_eq hI, ↓c_v_some]
      exact hin
    | succ d ih =>
      intro i hi
      have h5 : ¬ nI (slS s) ≤ nI i := nI_ge (by omega) (by omega)
      have ih1 := ih (i + 1) (by omega)
      have hin := m_fills_in_no (sc := sc) (g := g) (Q := Q) hI hM hc (m := i) (by omega) (nR s) 0 (by omega) (fun r _ h2 => hno i r (by omega) h2)
      rw [u150_2]
      simp only [↓u150_0, ↓u150_1, ↓u150_3, ↓u150_4, ↓u150_7, ↓u150_53, ↓u150_10, ↓u150_54, ↓u150_11, ↓u150_13, ↓u150_14, ↓u150_17, ↓u150_18, ↓u150_19, ↓u150_47, ↓u150_22, ↓u150_50, ↓u150_23, ↓u150_24, ↓u150_25, ↓u150_26, ↓u150_29, ↓u150_41, ↓u150_32, ↓u150_44, ↓u150_33, ↓u150_34, ↓u150_35, ↓u150_36, ↓u150_39, ↓u150_40, h5, if_true, if_false, ↓d_o, ↓m_slots hM, sl_eq hI, ↓c_v_some]
      exact hin.trans ih1
  simp only [↓en150, ↓u150_0, ↓u150_1, ↓u150_3, ↓u150_4, ↓u150_7, ↓u150_53, ↓u150_10, ↓u150_54, ↓u150_11, ↓u150_13, ↓u150_14, ↓u150_17, ↓u150_18, ↓u150_19, ↓u150_47, ↓u150_22, ↓u150_50, ↓u150_23, ↓u150_24, ↓u150_25, ↓u150_26, ↓u150_29, ↓u150_41, ↓u150_32, ↓u150_44, ↓u150_33, ↓u150_34, ↓u150_35, ↓u150_36, ↓u150_39, ↓u150_40]
  exact key m 0 (by omega)

end
