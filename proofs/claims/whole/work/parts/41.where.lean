/-! THE TWO AGREE: who is where -/
def latS (s : SV) (c : Nat) (pl : Int32) : Nat → Nat → Nat → Int32
  | 0, _, _ => -5
  | d + 1, i, b => if hC s c i = true then (if nI b = pl then 10 * nI i + rmI (rmS s c i) else latS s c pl d (i + 1) (b + 1)) else latS s c pl d (i + 1) b
theorem latS_succ {s : SV} {c : Nat} {pl : Int32} {d i b : Nat} : latS s c pl (d + 1) i b = if hC s c i = true then (if nI b = pl then 10 * nI i + rmI (rmS s c i) else latS s c pl d (i + 1) (b + 1)) else latS s c pl d (i + 1) b := rfl
section
variable {sc : Nat × (Nat → Int32)} {g : SG} {Q : Option Value → ri_W → Prop}

theorem c_lessonAt_l (hI : inv (g.1 0)) {c : Nat} {pl : Int32} (hc : c < 20) : ∀ (d i b : Nat), i + d = slS (g.1 0) → rv sc 82 22 [(0, .ref 0), (1, .int (nI c)), (2, .int pl), (3, .int (nI b)), (4, .int (nI i))] [] (Wd g) Q = Q (some (.int (latS (g.1 0) c pl d i b))) (Wd g) := by
  have h48 := (sl48 hI).1
  intro d
  induction d with
  | zero =>
    intro i b hi
    have h5 : nI (slS (g.1 0)) ≤ nI i := nI_le (by omega) (by omega)
    rw [u82_22]
    simp only [↓u82_0, ↓u82_1, ↓u82_2, ↓u82_5, ↓u82_10, ↓u82_8, ↓u82_11, ↓u82_9, ↓u82_17, ↓u82_14, ↓u82_18, ↓u82_16, ↓u82_19, ↓u82_20, ↓u82_24, ↓u82_25, ↓u82_28, ↓u82_31, ↓u82_81, ↓u82_34, ↓u82_83, ↓u82_35, ↓u82_38, ↓u82_41, ↓u82_42, ↓u82_44, ↓u82_47, ↓u82_75, ↓u82_50, ↓u82_78, ↓u82_51, ↓u82_52, ↓u82_72, ↓u82_55, ↓u82_57, ↓u82_59, ↓u82_60, ↓u82_61, ↓u82_64, ↓u82_65, ↓u82_67, ↓u82_70, ↓u82_71, ↓nf0, ↓s_o z7, ↓s_slots z7, sl_eq hI, ↓c_v_some, h5, if_true, if_false]
    rfl
  | succ d ih =>
    intro i b hi
    have h5 : ¬ nI (slS (g.1 0)) ≤ nI i := nI_ge (by omega) (by omega)
    have ih1 := ih (i + 1) (b + 1) (by omega)
    have ih2 := ih (i + 1) b (by omega)
    rw [u82_22]
    simp only [↓u82_0, ↓u82_1, ↓u82_2, ↓u82_5, ↓u82_10, ↓u82_8, ↓u82_11, ↓u82_9, ↓u82_17, ↓u82_14, ↓u82_18, ↓u82_16, ↓u82_19, ↓u82_20, ↓u82_24, ↓u82_25, ↓u82_28, ↓u82_31, ↓u82_81, ↓u82_34, ↓u82_83, ↓u82_35, ↓u82_38, ↓u82_41, ↓u82_42, ↓u82_44, ↓u82_47, ↓u82_75, ↓u82_50, ↓u82_78, ↓u82_51, ↓u82_52, ↓u82_72, ↓u82_55, ↓u82_57, ↓u82_59, ↓u82_60, ↓u82_61, ↓u82_64, ↓u82_65, ↓u82_67, ↓u82_70, ↓u82_71, ↓nf0, ↓s_o z7, ↓s_slots z7, sl_eq hI, ↓c_v_some, h5, if_true, if_false, ↓sf12 z7, ↓j_o3 z7, ↓s_hasC z7 hc (show i < 64 by omega), ↓s_roomOf z7 hI.2.1 hc (show i < 64 by omega), roomS_rm hI, nI_1, ih1, ih2]
    rw [latS_succ]
    cases hC (g.1 0) c i
    · simp [bI]
    · by_cases e : nI b = pl <;> simp [bI, e]

theorem m_lessonAt_l (hI : inv (g.1 0)) (hM : g.2.2.2.2 0 = mdl (g.1 0)) {c : Nat} {pl : Int32} (hc : c < 20) : ∀ (d i b : Nat), i + d = slS (g.1 0) → rv sc 162 22 [(0, .ref 154), (1, .int (nI c)), (2, .int pl), (3, .int (nI b)), (4, .int (nI i))] [] (Wd g) Q = Q (some (.int (latS (g.1 0) c pl d i b))) (Wd g) := by
  have h48 := (sl48 hI).1
  intro d
  induction d with
  | zero =>
    intro i b hi
    have h5 : nI (slS (g.1 0)) ≤ nI i := nI_le (by omega) (by omega)
    rw [u162_22]
    simp only [↓u162_0, ↓u162_1, ↓u162_2, ↓u162_5, ↓u162_10, ↓u162_8, ↓u162_11, ↓u162_9, ↓u162_17, ↓u162_14, ↓u162_18, ↓u162_16, ↓u162_19, ↓u162_20, ↓u162_24, ↓u162_25, ↓u162_28, ↓u162_69, ↓u162_31, ↓u162_71, ↓u162_32, ↓u162_33, ↓u162_35, ↓u162_38, ↓u162_63, ↓u162_41, ↓u162_66, ↓u162_42, ↓u162_43, ↓u162_60, ↓u162_46, ↓u162_48, ↓u162_50, ↓u162_51, ↓u162_52, ↓u162_53, ↓u162_55, ↓u162_58, ↓u162_59, ↓d_o, ↓m_slots hM, sl_eq hI, ↓c_v_some, h5, if_true, if_false]
    rfl
  | succ d ih =>
    intro i b hi
    have h5 : ¬ nI (slS (g.1 0)) ≤ nI i := nI_ge (by omega) (by omega)
    have ih1 := ih (i + 1) (b + 1) (by omega)
    have ih2 := ih (i + 1) b (by omega)
    rw [u162_22]
    simp only [↓u162_0, ↓u162_1, ↓u162_2, ↓u162_5, ↓u162_10, ↓u162_8, ↓u162_11, ↓u162_9, ↓u162_17, ↓u162_14, ↓u162_18, ↓u162_16, ↓u162_19, ↓u162_20, ↓u162_24, ↓u162_25, ↓u162_28, ↓u162_69, ↓u162_31, ↓u162_71, ↓u162_32, ↓u162_33, ↓u162_35, ↓u162_38, ↓u162_63, ↓u162_41, ↓u162_66, ↓u162_42, ↓u162_43, ↓u162_60, ↓u162_46, ↓u162_48, ↓u162_50, ↓u162_51, ↓u162_52, ↓u162_53, ↓u162_55, ↓u162_58, ↓u162_59, ↓d_o, ↓m_slots hM, sl_eq hI, ↓c_v_some, h5, if_true, if_false, ↓m_has hI hM hc (show i < 48 by omega), ↓m_roomOf hI hM hc (show i < 48 by omega), nI_1, ih1, ih2]
    rw [latS_succ]
    cases hC (g.1 0) c i
    · simp [bI]
    · by_cases e : nI b = pl <;> simp [bI, e]

theorem o_lessonAt (h : R g) {v x : Int32} : both sc 82 162 [.int v, .int x] g := by
  have hI := h.2.1
  have hM := h.2.2.1
  have hCn := hI.2.1.2.2.2.2.2
  rcases ii_cases (v := v) (n := nC (g.1 0)) (by omega) with ⟨c, c1, rfl, c2⟩ | ⟨-, c2⟩
  · have hc20 : c < 20 := by omega
    by_cases hx : x < 0
    · have hx2 : ¬ (0 : Int32) ≤ x := Int32.not_le.mpr hx
      refine both_q h (v := -2) (fun Q => ?_) (fun Q => ?_)
      · simp only [↓en82, ↓u82_0, ↓u82_1, ↓u82_2, ↓u82_5, ↓u82_10, ↓u82_8, ↓u82_11, ↓u82_9, ↓u82_17, ↓u82_14, ↓u82_18, ↓u82_16, ↓u82_19, ↓u82_20, ↓u82_24, ↓u82_25, ↓u82_28, ↓u82_31, ↓u82_81, ↓u82_34, ↓u82_83, ↓u82_35, ↓u82_38, ↓u82_41, ↓u82_42, ↓u82_44, ↓u82_47, ↓u82_75, ↓u82_50, ↓u82_78, ↓u82_51, ↓u82_52, ↓u82_72, ↓u82_55, ↓u82_57, ↓u82_59, ↓u82_60, ↓u82_61, ↓u82_64, ↓u82_65, ↓u82_67, ↓u82_70, ↓u82_71, ↓m_o, ↓c_knowsCourse, ↓c_v_some, hCn.1, c2, n10, hx, hx2, if_true, if_false]
      · simp only [↓en162, ↓u162_0, ↓u162_1, ↓u162_2, ↓u162_5, ↓u162_10, ↓u162_8, ↓u162_11, ↓u162_9, ↓u162_17, ↓u162_14, ↓u162_18, ↓u162_16, ↓u162_19, ↓u162_20, ↓u162_24, ↓u162_25, ↓u162_28, ↓u162_69, ↓u162_31, ↓u162_71, ↓u162_32, ↓u162_33, ↓u162_35, ↓u162_38, ↓u162_63, ↓u162_41, ↓u162_66, ↓u162_42, ↓u162_43, ↓u162_60, ↓u162_46, ↓u162_48, ↓u162_50, ↓u162_51, ↓u162_52, ↓u162_53, ↓u162_55, ↓u162_58, ↓u162_59, ↓d_o, ↓m_isCourse hM, ↓c_v_some, hCn.1, c2, n10, hx, hx2, if_true, if_false]
    · have hx2 : (0 : Int32) ≤ x := Int32.not_lt.mp hx
      refine both_q h (v := latS (g.1 0) c x (slS (g.1 0)) 0 0) (fun Q => ?_) (fun Q => ?_)
      · simp only [↓en82, ↓u82_0, ↓u82_1, ↓u82_2, ↓u82_5, ↓u82_10, ↓u82_8, ↓u82_11, ↓u82_9, ↓u82_17, ↓u82_14, ↓u82_18, ↓u82_16, ↓u82_19, ↓u82_20, ↓u82_24, ↓u82_25, ↓u82_28, ↓u82_31, ↓u82_81, ↓u82_34, ↓u82_83, ↓u82_35, ↓u82_38, ↓u82_41, ↓u82_42, ↓u82_44, ↓u82_47, ↓u82_75, ↓u82_50, ↓u82_78, ↓u82_51, ↓u82_52, ↓u82_72, ↓u82_55, ↓u82_57, ↓u82_59, ↓u82_60, ↓u82_61, ↓u82_64, ↓u82_65, ↓u82_67, ↓u82_70, ↓u82_71, ↓m_o, ↓c_knowsCourse, ↓c_v_some, hCn.1, c2, n10, hx, hx2, if_true, if_false]
        exact c_lessonAt_l hI hc20 (slS (g.1 0)) 0 0 (by omega)
      · simp only [↓en162, ↓u162_0, ↓u162_1, ↓u162_2, ↓u162_5, ↓u162_10, ↓u162_8, ↓u162_11, ↓u162_9, ↓u162_17, ↓u162_14, ↓u162_18, ↓u162_16, ↓u162_19, ↓u162_20, ↓u162_24, ↓u162_25, ↓u162_28, ↓u162_69, ↓u162_31, ↓u162_71, ↓u162_32, ↓u162_33, ↓u162_35, ↓u162_38, ↓u162_63, ↓u162_41, ↓u162_66, ↓u162_42, ↓u162_43, ↓u162_60, ↓u162_46, ↓u162_48, ↓u162_50, ↓u162_51, ↓u162_52, ↓u162_53, ↓u162_55, ↓u162_58, ↓u162_59, ↓d_o, ↓m_isCourse hM, ↓c_v_some, hCn.1, c2, n10, hx, hx2, if_true, if_false]
        exact m_lessonAt_l hI hM hc20 (slS (g.1 0)) 0 0 (by omega)
  · refine both_q h (v := -1) (fun Q => ?_) (fun Q => ?_)
    · simp only [↓en82, ↓u82_0, ↓u82_1, ↓u82_2, ↓u82_5, ↓u82_10, ↓u82_8, ↓u82_11, ↓u82_9, ↓u82_17, ↓u82_14, ↓u82_18, ↓u82_16, ↓u82_19, ↓u82_20, ↓u82_24, ↓u82_25, ↓u82_28, ↓u82_31, ↓u82_81, ↓u82_34, ↓u82_83, ↓u82_35, ↓u82_38, ↓u82_41, ↓u82_42, ↓u82_44, ↓u82_47, ↓u82_75, ↓u82_50, ↓u82_78, ↓u82_51, ↓u82_52, ↓u82_72, ↓u82_55, ↓u82_57, ↓u82_59, ↓u82_60, ↓u82_61, ↓u82_64, ↓u82_65, ↓u82_67, ↓u82_70, ↓u82_71, ↓m_o, ↓c_knowsCourse, ↓c_v_some, hCn.1, c2, n00, if_true]
    · simp only [↓en162, ↓u162_0, ↓u162_1, ↓u162_2, ↓u162_5, ↓u162_10, ↓u162_8, ↓u162_11, ↓u162_9, ↓u162_17, ↓u162_14, ↓u162_18, ↓u162_16, ↓u162_19, ↓u162_20, ↓u162_24, ↓u162_25, ↓u162_28, ↓u162_69, ↓u162_31, ↓u162_71, ↓u162_32, ↓u162_33, ↓u162_35, ↓u162_38, ↓u162_63, ↓u162_41, ↓u162_66, ↓u162_42, ↓u162_43, ↓u162_60, ↓u162_46, ↓u162_48, ↓u162_50, ↓u162_51, ↓u162_52, ↓u162_53, ↓u162_55, ↓u162_58, ↓u162_59, ↓d_o, ↓m_isCourse hM, ↓c_v_some, hCn.1, c2, n00, if_true]

theorem c_groupAt_l (hI : inv (g.1 0)) {m : Nat} {x pt : Int32} (hm : m < 64) : ∀ (d i : Nat), i + d = nC (g.1 0) → rv sc 83 36 [(0, .ref 0), (1, .int x), (2, .int pt), (3, .int (nI m)), (4, .int (nI i))] [] (Wd g) Q = Q (some (.int (fdI (fun c => hC (g.1 0) c m && isForS (g.1 0) c x pt) i d))) (Wd g) := by
  have h20 := nC20 hI
  intro d
  induction d with
  | zero =>
    intro i hi
    have h5 : nI (nC (g.1 0)) ≤ nI i := nI_le (by omega) (by omega)
    rw [u83_36]
    simp only [↓u83_0, ↓u83_1, ↓u83_2, ↓u83_5, ↓u83_19, ↓u83_8, ↓u83_20, ↓u83_9, ↓u83_12, ↓u83_13, ↓u83_16, ↓u83_21, ↓u83_22, ↓u83_23, ↓u83_24, ↓u83_27, ↓u83_33, ↓u83_30, ↓u83_34, ↓u83_32, ↓u83_38, ↓u83_39, ↓u83_42, ↓u83_45, ↓u83_87, ↓u83_48, ↓u83_89, ↓u83_49, ↓u83_52, ↓u83_55, ↓u83_57, ↓u83_58, ↓u83_61, ↓u83_81, ↓u83_64, ↓u83_84, ↓u83_65, ↓u83_68, ↓u83_70, ↓u83_71, ↓u83_72, ↓u83_75, ↓u83_78, ↓u83_80, h5, if_true, if_false, ↓nf0, ↓sf5 z7, nC_eq hI]
    rfl
  | succ d ih =>
    intro i hi
    have h5 : ¬ nI (nC (g.1 0)) ≤ nI i := nI_ge (by omega) (by omega)
    have ih1 := ih (i + 1) (by omega)
    rw [u83_36]
    simp only [↓u83_0, ↓u83_1, ↓u83_2, ↓u83_5, ↓u83_19, ↓u83_8, ↓u83_20, ↓u83_9, ↓u83_12, ↓u83_13, ↓u83_16, ↓u83_21, ↓u83_22, ↓u83_23, ↓u83_24, ↓u83_27, ↓u83_33, ↓u83_30, ↓u83_34, ↓u83_32, ↓u83_38, ↓u83_39, ↓u83_42, ↓u83_45, ↓u83_87, ↓u83_48, ↓u83_89, ↓u83_49, ↓u83_52, ↓u83_55, ↓u83_57, ↓u83_58, ↓u83_61, ↓u83_81, ↓u83_64, ↓u83_84, ↓u83_65, ↓u83_68, ↓u83_70, ↓u83_71, ↓u83_72, ↓u83_75, ↓u83_78, ↓u83_80, h5, if_true, if_false, ↓nf0, ↓sf5 z7, nC_eq hI, ↓s_o z7, ↓c_v_some, ↓sf12 z7, ↓j_o3 z7, ↓s_hasC z7 (show i < 20 by omega) hm, ↓s_isFor z7 (show i < 20 by omega), nI_1, ih1, fdI_succ]
    cases isForS (g.1 0) i x pt <;> cases hC (g.1 0) i m <;> simp [bI]

theorem c_roomAt_l (hI : inv (g.1 0)) {m r : Nat} (hm : m < 64) (hr : r < 6) : ∀ (d i : Nat), i + d = nC (g.1 0) → rv sc 84 26 [(0, .ref 0), (1, .int (nI r)), (2, .int (nI m)), (3, .int (nI i))] [] (Wd g) Q = Q (some (.int (fdI (fun c => hX (g.1 0) c r m) i d))) (Wd g) := by
  have h20 := nC20 hI
  intro d
  induction d with
  | zero =>
    intro i hi
    have h5 : nI (nC (g.1 0)) ≤ nI i := nI_le (by omega) (by omega)
    rw [u84_26]
    simp only [↓u84_0, ↓u84_1, ↓u84_4, ↓u84_5, ↓u84_8, ↓u84_22, ↓u84_11, ↓u84_23, ↓u84_12, ↓u84_15, ↓u84_16, ↓u84_19, ↓u84_24, ↓u84_25, ↓u84_27, ↓u84_28, ↓u84_31, ↓u84_34, ↓u84_58, ↓u84_37, ↓u84_60, ↓u84_38, ↓u84_41, ↓u84_42, ↓u84_43, ↓u84_44, ↓u84_47, ↓u84_52, ↓u84_50, ↓u84_55, ↓u84_51, h5, if_true, if_false, ↓nf0, ↓sf5 z7, nC_eq hI]
    rfl
  | succ d ih =>
    intro i hi
    have h5 : ¬ nI (nC (g.1 0)) ≤ nI i := nI_ge (by omega) (by omega)
    have ih1 := ih (i + 1) (by omega)
    rw [u84_26]
    simp only [↓u84_0, ↓u84_1, ↓u84_4, ↓u84_5, ↓u84_8, ↓u84_22, ↓u84_11, ↓u84_23, ↓u84_12, ↓u84_15, ↓u84_16, ↓u84_19, ↓u84_24, ↓u84_25, ↓u84_27, ↓u84_28, ↓u84_31, ↓u84_34, ↓u84_58, ↓u84_37, ↓u84_60, ↓u84_38, ↓u84_41, ↓u84_42, ↓u84_43, ↓u84_44, ↓u84_47, ↓u84_52, ↓u84_50, ↓u84_55, ↓u84_51, h5, if_true, if_false, ↓nf0, ↓sf5 z7, nC_eq hI, ↓s_o z7, ↓c_v_some, ↓s_isInRoom z7 (show i < 20 by omega) hr hm, nI_1, ih1, fdI_succ]
    cases hX (g.1 0) i r m <;> simp [bI]

theorem c_teacherAt_l (hI : inv (g.1 0)) {m : Nat} {x : Int32} (hm : m < 64) : ∀ (d i : Nat), i + d = nC (g.1 0) → rv sc 85 23 [(0, .ref 0), (1, .int x), (2, .int (nI m)), (3, .int (nI i))] [] (Wd g) Q = Q (some (.int (fdI (fun c => decide (fact (g.1 0) c 3 = x) && hC (g.1 0) c m) i d))) (Wd g) := by
  have h20 := nC20 hI
  intro d
  induction d with
  | zero =>
    intro i hi
    have h5 : nI (nC (g.1 0)) ≤ nI i := nI_le (by omega) (by omega)
    rw [u85_23]
    simp only [↓u85_0, ↓u85_1, ↓u85_2, ↓u85_5, ↓u85_19, ↓u85_8, ↓u85_20, ↓u85_9, ↓u85_12, ↓u85_13, ↓u85_16, ↓u85_21, ↓u85_22, ↓u85_24, ↓u85_25, ↓u85_28, ↓u85_31, ↓u85_70, ↓u85_34, ↓u85_72, ↓u85_35, ↓u85_38, ↓u85_39, ↓u85_40, ↓u85_43, ↓u85_44, ↓u85_64, ↓u85_47, ↓u85_67, ↓u85_48, ↓u85_51, ↓u85_54, ↓u85_55, ↓u85_56, ↓u85_59, ↓u85_62, ↓u85_63, h5, if_true, if_false, ↓nf0, ↓sf5 z7, nC_eq hI]
    rfl
  | succ d ih =>
    intro i hi
    have h5 : ¬ nI (nC (g.1 0)) ≤ nI i := nI_ge (by omega) (by omega)
    have ih1 := ih (i + 1) (by omega)
    rw [u85_23]
    simp only [↓u85_0, ↓u85_1, ↓u85_2, ↓u85_5, ↓u85_19, ↓u85_8, ↓u85_20, ↓u85_9, ↓u85_12, ↓u85_13, ↓u85_16, ↓u85_21, ↓u85_22, ↓u85_24, ↓u85_25, ↓u85_28, ↓u85_31, ↓u85_70, ↓u85_34, ↓u85_72, ↓u85_35, ↓u85_38, ↓u85_39, ↓u85_40, ↓u85_43, ↓u85_44, ↓u85_64, ↓u85_47, ↓u85_67, ↓u85_48, ↓u85_51, ↓u85_54, ↓u85_55, ↓u85_56, ↓u85_59, ↓u85_62, ↓u85_63, h5, if_true, if_false, ↓nf0, ↓sf5 z7, nC_eq hI, ↓s_o z7, ↓c_v_some, ↓sf12 z7, ↓j_o3 z7, ↓s_hasC z7 (show i < 20 by omega) hm, ↓s_fact3 z7 (show i < 20 by omega), nI_1, ih1, fdI_succ]
    by_cases e : fact (g.1 0) i 3 = x <;> cases hC (g.1 0) i m <;> simp [e, bI]

theorem o_roomAt (h : R g) {v x : Int32} : both sc 84 166 [.int v, .int x] g := by
  have hI := h.2.1
  have hM := h.2.2.1
  have h48 := (sl48 hI).1
  have hR6 := nR6 hI
  rcases ii_cases (v := v) (n := nR (g.1 0)) (by omega) with ⟨r, r1, rfl, r2⟩ | ⟨-, r2⟩
  · rcases ii_cases (v := x) (n := slS (g.1 0)) (by omega) with ⟨m, m1, rfl, m2⟩ | ⟨-, m2⟩
    · refine both_q h (v := fdI (fun c => hX (g.1 0) c r m) 0 (nC (g.1 0))) (fun Q => ?_) (fun Q => ?_)
      · simp only [↓en84, ↓u84_0, ↓u84_1, ↓u84_4, ↓u84_5, ↓u84_8, ↓u84_22, ↓u84_11, ↓u84_23, ↓u84_12, ↓u84_15, ↓u84_16, ↓u84_19, ↓u84_24, ↓u84_25, ↓u84_27, ↓u84_28, ↓u84_31, ↓u84_34, ↓u84_58, ↓u84_37, ↓u84_60, ↓u84_38, ↓u84_41, ↓u84_42, ↓u84_43, ↓u84_44, ↓u84_47, ↓u84_52, ↓u84_50, ↓u84_55, ↓u84_51, ↓nf0, ↓s_o z7, ↓s_knowsRoom z7, ↓s_knowsSlot z7, ↓c_v_some, nR_eq hI, sl_eq hI, r2, m2, n10, if_false]
        exact c_roomAt_l hI (by omega) (by omega) (nC (g.1 0)) 0 (by omega)
      · have e : fdI (fun c => hX (g.1 0) c r m) 0 (nC (g.1 0)) = fdI (fun c => decide (rmI (rmS (g.1 0) c m) = nI r)) 0 (nC (g.1 0)) := fdI_cong (fun c _ _ => by
          rw [Bool.eq_iff_iff, decide_eq_true_eq]
          constructor
          · intro hx
            rw [(rm_iff hI.2.2.2.2.1.2.1).mpr ⟨by omega, hx⟩]
            rfl
          · intro hx
            cases e2 : rmS (g.1 0) c m with
            | none =>
              rw [e2] at hx
              exact absurd hx.symm (nI_n5 (by omega))
            | some r' =>
              rw [e2] at hx
              have h9 := (rm_iff hI.2.2.2.2.1.2.1).mp e2
              have : r' = r := (nI_eq (by omega) (by omega)).mp hx
              exact this ▸ h9.2)
        rw [e]
        simp only [↓en166, ↓u166_0, ↓u166_1, ↓u166_2, ↓u166_5, ↓u166_25, ↓u166_8, ↓u166_26, ↓u166_9, ↓u166_10, ↓u166_13, ↓u166_16, ↓u166_17, ↓u166_18, ↓u166_19, ↓u166_22, ↓d_o, ↓m_isRoom hM, ↓m_isSlot hM, ↓c_v_some, nR_eq hI, sl_eq hI, r2, m2, n10, if_false, ↓m_courseIn hI hM (show m < 48 by omega)]
    · refine both_q h (v := -1) (fun Q => ?_) (fun Q => ?_)
      · simp only [↓en84, ↓u84_0, ↓u84_1, ↓u84_4, ↓u84_5, ↓u84_8, ↓u84_22, ↓u84_11, ↓u84_23, ↓u84_12, ↓u84_15, ↓u84_16, ↓u84_19, ↓u84_24, ↓u84_25, ↓u84_27, ↓u84_28, ↓u84_31, ↓u84_34, ↓u84_58, ↓u84_37, ↓u84_60, ↓u84_38, ↓u84_41, ↓u84_42, ↓u84_43, ↓u84_44, ↓u84_47, ↓u84_52, ↓u84_50, ↓u84_55, ↓u84_51, ↓nf0, ↓s_o z7, ↓s_knowsRoom z7, ↓s_knowsSlot z7, ↓c_v_some, nR_eq hI, sl_eq hI, r2, m2, n10, n00, if_false, if_true]
      · simp only [↓en166, ↓u166_0, ↓u166_1, ↓u166_2, ↓u166_5, ↓u166_25, ↓u166_8, ↓u166_26, ↓u166_9, ↓u166_10, ↓u166_13, ↓u166_16, ↓u166_17, ↓u166_18, ↓u166_19, ↓u166_22, ↓d_o, ↓m_isRoom hM, ↓m_isSlot hM, ↓c_v_some, nR_eq hI, sl_eq hI, r2, m2, n10, n00, if_false, if_true]
  · refine both_q h (v := -1) (fun Q => ?_) (fun Q => ?_)
    · simp only [↓en84, ↓u84_0, ↓u84_1, ↓u84_4, ↓u84_5, ↓u84_8, ↓u84_22, ↓u84_11, ↓u84_23, ↓u84_12, ↓u84_15, ↓u84_16, ↓u84_19, ↓u84_24, ↓u84_25, ↓u84_27, ↓u84_28, ↓u84_31, ↓u84_34, ↓u84_58, ↓u84_37, ↓u84_60, ↓u84_38, ↓u84_41, ↓u84_42, ↓u84_43, ↓u84_44, ↓u84_47, ↓u84_52, ↓u84_50, ↓u84_55, ↓u84_51, ↓nf0, ↓s_o z7, ↓s_knowsRoom z7, ↓c_v_some, nR_eq hI, r2, n00, if_true]
    · simp only [↓en166, ↓u166_0, ↓u166_1, ↓u166_2, ↓u166_5, ↓u166_25, ↓u166_8, ↓u166_26, ↓u166_9, ↓u166_10, ↓u166_13, ↓u166_16, ↓u166_17, ↓u166_18, ↓u166_19, ↓u166_22, ↓d_o, ↓m_isRoom hM, ↓c_v_some, nR_eq hI, r2, n00, if_true]
theorem nT_eq (hI : inv (g.1 0)) : (g.1 0).1 3 = nI (nT (g.1 0)) := hI.2.1.2.2.2.1.1
theorem nG_eq (hI : inv (g.1 0)) : (g.1 0).1 2 = nI (nG (g.1 0)) := hI.2.1.2.2.1.1
theorem o_teacherAt (h : R g) {v x : Int32} : both sc 85 167 [.int v, .int x] g := by
  have hI := h.2.1
  have hM := h.2.2.1
  have h48 := (sl48 hI).1
  have hT8 := nT8 hI
  rcases ii_cases (v := v) (n := nT (g.1 0)) (by omega) with ⟨t, r1, rfl, r2⟩ | ⟨-, r2⟩
  · rcases ii_cases (v := x) (n := slS (g.1 0)) (by omega) with ⟨m, m1, rfl, m2⟩ | ⟨-, m2⟩
    · refine both_q h (v := fdI (fun c => decide (fact (g.1 0) c 3 = nI t) && hC (g.1 0) c m) 0 (nC (g.1 0))) (fun Q => ?_) (fun Q => ?_)
      · simp only [↓en85, ↓u85_0, ↓u85_1, ↓u85_2, ↓u85_5, ↓u85_19, ↓u85_8, ↓u85_20, ↓u85_9, ↓u85_12, ↓u85_13, ↓u85_16, ↓u85_21, ↓u85_22, ↓u85_24, ↓u85_25, ↓u85_28, ↓u85_31, ↓u85_70, ↓u85_34, ↓u85_72, ↓u85_35, ↓u85_38, ↓u85_39, ↓u85_40, ↓u85_43, ↓u85_44, ↓u85_64, ↓u85_47, ↓u85_67, ↓u85_48, ↓u85_51, ↓u85_54, ↓u85_55, ↓u85_56, ↓u85_59, ↓u85_62, ↓u85_63, ↓m_o, ↓c_knowsTeacher, ↓nf0, ↓s_o z7, ↓s_knowsSlot z7, ↓c_v_some, nT_eq hI, sl_eq hI, r2, m2, n10, if_false]
        exact c_teacherAt_l hI (by omega) (nC (g.1 0)) 0 (by omega)
      · simp only [↓en167, ↓u167_0, ↓u167_1, ↓u167_2, ↓u167_5, ↓u167_25, ↓u167_8, ↓u167_26, ↓u167_9, ↓u167_10, ↓u167_13, ↓u167_16, ↓u167_17, ↓u167_18, ↓u167_19, ↓u167_22, ↓d_o, ↓m_isTeacher hM, ↓m_isSlot hM, ↓c_v_some, nT_eq hI, sl_eq hI, r2, m2, n10, if_false, ↓m_courseOf hI hM (show m < 48 by omega)]
    · refine both_q h (v := -1) (fun Q => ?_) (fun Q => ?_)
      · simp only [↓en85, ↓u85_0, ↓u85_1, ↓u85_2, ↓u85_5, ↓u85_19, ↓u85_8, ↓u85_20, ↓u85_9, ↓u85_12, ↓u85_13, ↓u85_16, ↓u85_21, ↓u85_22, ↓u85_24, ↓u85_25, ↓u85_28, ↓u85_31, ↓u85_70, ↓u85_34, ↓u85_72, ↓u85_35, ↓u85_38, ↓u85_39, ↓u85_40, ↓u85_43, ↓u85_44, ↓u85_64, ↓u85_47, ↓u85_67, ↓u85_48, ↓u85_51, ↓u85_54, ↓u85_55, ↓u85_56, ↓u85_59, ↓u85_62, ↓u85_63, ↓m_o, ↓c_knowsTeacher, ↓nf0, ↓s_o z7, ↓s_knowsSlot z7, ↓c_v_some, nT_eq hI, sl_eq hI, r2, m2, n10, n00, if_false, if_true]
      · simp only [↓en167, ↓u167_0, ↓u167_1, ↓u167_2, ↓u167_5, ↓u167_25, ↓u167_8, ↓u167_26, ↓u167_9, ↓u167_10, ↓u167_13, ↓u167_16, ↓u167_17, ↓u167_18, ↓u167_19, ↓u167_22, ↓d_o, ↓m_isTeacher hM, ↓m_isSlot hM, ↓c_v_some, nT_eq hI, sl_eq hI, r2, m2, n10, n00, if_false, if_true]
  · refine both_q h (v := -1) (fun Q => ?_) (fun Q => ?_)
    · simp only [↓en85, ↓u85_0, ↓u85_1, ↓u85_2, ↓u85_5, ↓u85_19, ↓u85_8, ↓u85_20, ↓u85_9, ↓u85_12, ↓u85_13, ↓u85_16, ↓u85_21, ↓u85_22, ↓u85_24, ↓u85_25, ↓u85_28, ↓u85_31, ↓u85_70, ↓u85_34, ↓u85_72, ↓u85_35, ↓u85_38, ↓u85_39, ↓u85_40, ↓u85_43, ↓u85_44, ↓u85_64, ↓u85_47, ↓u85_67, ↓u85_48, ↓u85_51, ↓u85_54, ↓u85_55, ↓u85_56, ↓u85_59, ↓u85_62, ↓u85_63, ↓m_o, ↓c_knowsTeacher, ↓c_v_some, nT_eq hI, r2, n00, if_true]
    · simp only [↓en167, ↓u167_0, ↓u167_1, ↓u167_2, ↓u167_5, ↓u167_25, ↓u167_8, ↓u167_26, ↓u167_9, ↓u167_10, ↓u167_13, ↓u167_16, ↓u167_17, ↓u167_18, ↓u167_19, ↓u167_22, ↓d_o, ↓m_isTeacher hM, ↓c_v_some, nT_eq hI, r2, n00, if_true]
theorem i02 {x : Int32} : ii x 0 2 = 1 ∨ ii x 0 2 = 0 := by
  unfold ii
  repeat' (first | exact .inl rfl | exact .inr rfl | split)
theorem o_groupAt (h : R g) {v p x : Int32} : both sc 83 165 [.int v, .int p, .int x] g := by
  have hI := h.2.1
  have hM := h.2.2.1
  have h48 := (sl48 hI).1
  have hG8 := nG8 hI
  rcases ii_cases (v := v) (n := nG (g.1 0)) (by omega) with ⟨t, r1, rfl, r2⟩ | ⟨-, r2⟩
  · rcases ii_cases (v := x) (n := slS (g.1 0)) (by omega) with ⟨m, m1, rfl, m2⟩ | ⟨-, m2⟩
    · rcases i02 (x := p) with p2 | p2
      · refine both_q h (v := fdI (fun c => hC (g.1 0) c m && isForS (g.1 0) c (nI t) p) 0 (nC (g.1 0))) (fun Q => ?_) (fun Q => ?_)
        · simp only [↓en83, ↓u83_0, ↓u83_1, ↓u83_2, ↓u83_5, ↓u83_19, ↓u83_8, ↓u83_20, ↓u83_9, ↓u83_12, ↓u83_13, ↓u83_16, ↓u83_21, ↓u83_22, ↓u83_23, ↓u83_24, ↓u83_27, ↓u83_33, ↓u83_30, ↓u83_34, ↓u83_32, ↓u83_38, ↓u83_39, ↓u83_42, ↓u83_45, ↓u83_87, ↓u83_48, ↓u83_89, ↓u83_49, ↓u83_52, ↓u83_55, ↓u83_57, ↓u83_58, ↓u83_61, ↓u83_81, ↓u83_64, ↓u83_84, ↓u83_65, ↓u83_68, ↓u83_70, ↓u83_71, ↓u83_72, ↓u83_75, ↓u83_78, ↓u83_80, ↓m_o, ↓c_knowsGroup, ↓s_isIn, ↓nf0, ↓s_o z7, ↓s_knowsSlot z7, ↓c_v_some, nG_eq hI, sl_eq hI, r2, m2, p2, n10, if_false]
          exact c_groupAt_l hI (by omega) (nC (g.1 0)) 0 (by omega)
        · have e : fdI (fun c => hC (g.1 0) c m && isForS (g.1 0) c (nI t) p) 0 (nC (g.1 0)) = fdI (fun c => tkP (g.1 0) c (nI t) p && hC (g.1 0) c m) 0 (nC (g.1 0)) := fdI_cong (fun c _ h9 => by rw [tkP_S hI (by omega) (by omega), Bool.and_comm])
          rw [e]
          simp only [↓en165, ↓u165_0, ↓u165_1, ↓u165_2, ↓u165_5, ↓u165_16, ↓u165_8, ↓u165_17, ↓u165_9, ↓u165_10, ↓u165_13, ↓u165_18, ↓u165_19, ↓u165_20, ↓u165_21, ↓u165_24, ↓u165_37, ↓u165_27, ↓u165_39, ↓u165_28, ↓u165_29, ↓u165_30, ↓u165_31, ↓u165_34, ↓d_o, ↓m_isGroup hM, ↓m_isSlot hM, ↓m_isIn, ↓c_v_some, nG_eq hI, sl_eq hI, r2, m2, p2, n10, if_false, ↓m_courseFor hI hM (show m < 48 by omega)]
      · refine both_q h (v := -2) (fun Q => ?_) (fun Q => ?_)
        · simp only [↓en83, ↓u83_0, ↓u83_1, ↓u83_2, ↓u83_5, ↓u83_19, ↓u83_8, ↓u83_20, ↓u83_9, ↓u83_12, ↓u83_13, ↓u83_16, ↓u83_21, ↓u83_22, ↓u83_23, ↓u83_24, ↓u83_27, ↓u83_33, ↓u83_30, ↓u83_34, ↓u83_32, ↓u83_38, ↓u83_39, ↓u83_42, ↓u83_45, ↓u83_87, ↓u83_48, ↓u83_89, ↓u83_49, ↓u83_52, ↓u83_55, ↓u83_57, ↓u83_58, ↓u83_61, ↓u83_81, ↓u83_64, ↓u83_84, ↓u83_65, ↓u83_68, ↓u83_70, ↓u83_71, ↓u83_72, ↓u83_75, ↓u83_78, ↓u83_80, ↓m_o, ↓c_knowsGroup, ↓s_isIn, ↓nf0, ↓s_o z7, ↓s_knowsSlot z7, ↓c_v_some, nG_eq hI, sl_eq hI, r2, m2, p2, n10, n00, if_false, if_true]
        · simp only [↓en165, ↓u165_0, ↓u165_1, ↓u165_2, ↓u165_5, ↓u165_16, ↓u165_8, ↓u165_17, ↓u165_9, ↓u165_10, ↓u165_13, ↓u165_18, ↓u165_19, ↓u165_20, ↓u165_21, ↓u165_24, ↓u165_37, ↓u165_27, ↓u165_39, ↓u165_28, ↓u165_29, ↓u165_30, ↓u165_31, ↓u165_34, ↓d_o, ↓m_isGroup hM, ↓m_isSlot hM, ↓m_isIn, ↓c_v_some, nG_eq hI, sl_eq hI, r2, m2, p2, n10, n00, if_false, if_true]
    · refine both_q h (v := -1) (fun Q => ?_) (fun Q => ?_)
      · simp only [↓en83, ↓u83_0, ↓u83_1, ↓u83_2, ↓u83_5, ↓u83_19, ↓u83_8, ↓u83_20, ↓u83_9, ↓u83_12, ↓u83_13, ↓u83_16, ↓u83_21, ↓u83_22, ↓u83_23, ↓u83_24, ↓u83_27, ↓u83_33, ↓u83_30, ↓u83_34, ↓u83_32, ↓u83_38, ↓u83_39, ↓u83_42, ↓u83_45, ↓u83_87, ↓u83_48, ↓u83_89, ↓u83_49, ↓u83_52, ↓u83_55, ↓u83_57, ↓u83_58, ↓u83_61, ↓u83_81, ↓u83_64, ↓u83_84, ↓u83_65, ↓u83_68, ↓u83_70, ↓u83_71, ↓u83_72, ↓u83_75, ↓u83_78, ↓u83_80, ↓m_o, ↓c_knowsGroup, ↓nf0, ↓s_o z7, ↓s_knowsSlot z7, ↓c_v_some, nG_eq hI, sl_eq hI, r2, m2, n10, n00, if_false, if_true]
      · simp only [↓en165, ↓u165_0, ↓u165_1, ↓u165_2, ↓u165_5, ↓u165_16, ↓u165_8, ↓u165_17, ↓u165_9, ↓u165_10, ↓u165_13, ↓u165_18, ↓u165_19, ↓u165_20, ↓u165_21, ↓u165_24, ↓u165_37, ↓u165_27, ↓u165_39, ↓u165_28, ↓u165_29, ↓u165_30, ↓u165_31, ↓u165_34, ↓d_o, ↓m_isGroup hM, ↓m_isSlot hM, ↓c_v_some, nG_eq hI, sl_eq hI, r2, m2, n10, n00, if_false, if_true]
  · refine both_q h (v := -1) (fun Q => ?_) (fun Q => ?_)
    · simp only [↓en83, ↓u83_0, ↓u83_1, ↓u83_2, ↓u83_5, ↓u83_19, ↓u83_8, ↓u83_20, ↓u83_9, ↓u83_12, ↓u83_13, ↓u83_16, ↓u83_21, ↓u83_22, ↓u83_23, ↓u83_24, ↓u83_27, ↓u83_33, ↓u83_30, ↓u83_34, ↓u83_32, ↓u83_38, ↓u83_39, ↓u83_42, ↓u83_45, ↓u83_87, ↓u83_48, ↓u83_89, ↓u83_49, ↓u83_52, ↓u83_55, ↓u83_57, ↓u83_58, ↓u83_61, ↓u83_81, ↓u83_64, ↓u83_84, ↓u83_65, ↓u83_68, ↓u83_70, ↓u83_71, ↓u83_72, ↓u83_75, ↓u83_78, ↓u83_80, ↓m_o, ↓c_knowsGroup, ↓c_v_some, nG_eq hI, r2, n00, if_true]
    · simp only [↓en165, ↓u165_0, ↓u165_1, ↓u165_2, ↓u165_5, ↓u165_16, ↓u165_8, ↓u165_17, ↓u165_9, ↓u165_10, ↓u165_13, ↓u165_18, ↓u165_19, ↓u165_20, ↓u165_21, ↓u165_24, ↓u165_37, ↓u165_27, ↓u165_39, ↓u165_28, ↓u165_29, ↓u165_30, ↓u165_31, ↓u165_34, ↓d_o, ↓m_isGroup hM, ↓c_v_some, nG_eq hI, r2, n00, if_true]
end
